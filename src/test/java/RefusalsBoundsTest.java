import java.util.ArrayList;
import java.util.List;
import java.util.function.Supplier;
import java.util.function.ToIntFunction;

/**
 * 'Terms': the refusals, in their order, with nothing changed. A table has the bounds of each number of each call; every
 * mixture of the values just inside, just outside and far outside is asked.
 */
public final class RefusalsBoundsTest {
    /** A number that a call takes; beyond its bounds a known one (of a place, a road, an image) is UNKNOWN, another OUTSIDE. */
    private record Number(boolean known, int least, int most) {
        boolean holds(int v) {
            return v >= least && v <= most;
        }

        List<Integer> edges() {
            List<Integer> list = new ArrayList<>();
            long[] all = {Integer.MIN_VALUE, least - 1L, least, most, most + 1L, Integer.MAX_VALUE};
            for (long v : all) {
                if (v == (int) v && !list.contains((int) v)) {
                    list.add((int) v);
                }
            }
            return list;
        }
    }

    private interface Asked {
        int of(TurnedPosts x, int[] v);
    }

    private record Call(String name, Asked asked, Number... numbers) {
    }

    public static void main(String[] args) {
        numbersOfRefusals();
        unknownThenOutside("rich", Made::rich, callsOf(Made.RICH_PLACES, Made.RICH_ROADS));
        unknownThenOutside("full", Made::full, callsOf(Made.RICH_PLACES, Made.RICH_ROADS));
        unknownThenOutside("new", Made::empty, callsOf(0, 0));
        bitsOfPlaces();
        notBehindUnknownAndOutside();
        fullBehindAllOthers();
        noRefusalInside();
        Check.end("RefusalsBoundsTest");
    }

    private static void numbersOfRefusals() {
        Check.sentence(0, "They are far below all that is counted: -1000000001 and on.");
        Check.due("UNKNOWN", TurnedPosts.UNKNOWN, -1000000001);
        Check.due("OUTSIDE", TurnedPosts.OUTSIDE, -1000000002);
        Check.due("NOT", TurnedPosts.NOT, -1000000003);
        Check.due("FULL", TurnedPosts.FULL, -1000000004);
        Check.sentence(0, "NONE is -1.");
        Check.due("NONE", TurnedPosts.NONE, -1);
    }

    private static Number plain(int least, int most) {
        return new Number(false, least, most);
    }

    /** Of arms the bounds are those of places 0 and 4 of the rich land: two sides each. */
    private static List<Call> callsOf(int places, int roads) {
        Number place = new Number(true, 0, places - 1);
        Number image = new Number(true, 0, 1);
        List<Call> list = new ArrayList<>();
        list.add(new Call("feed", (x, v) -> x.feed(v[0], 0x3B3B3B3B3B3B3B3BL), plain(1, 8)));
        list.add(new Call("told", (x, v) -> x.told(v[0]), plain(0, 7)));
        list.add(new Call("road", (x, v) -> x.road(v[0], v[1]), new Number(true, 0, roads - 1), plain(0, 2)));
        list.add(new Call("far", (x, v) -> x.far(v[0], v[1]), place, place));
        list.add(new Call("post", (x, v) -> x.post(v[0], v[1]), place, plain(0, 2)));
        list.add(new Call("arm", (x, v) -> x.arm(v[0], v[1], v[2]), place, plain(0, 1), plain(0, 2)));
        list.add(new Call("miles", (x, v) -> x.miles(v[0], v[1]), place, place));
        list.add(new Call("turn", (x, v) -> x.turn(v[0], v[1]), place, plain(1, 99)));
        list.add(new Call("fell up", (x, v) -> x.fell(v[0], v[1], false), place, plain(0, 1)));
        list.add(new Call("fell", (x, v) -> x.fell(v[0], v[1], true), place, plain(0, 1)));
        list.add(new Call("paint", (x, v) -> x.paint(v[0], v[1], v[2]), place, place, plain(0, 999)));
        list.add(new Call("walk", (x, v) -> x.walk(v[0], v[1], v[2]), place, place, plain(0, 2)));
        list.add(new Call("way", (x, v) -> x.way(v[0], v[1], 0), place, place));
        list.add(new Call("seen", (x, v) -> x.seen(v[0], v[1], v[2]), place, place, place));
        list.add(new Call("fits", (x, v) -> x.fits(v[0]), place));
        list.add(new Call("best", (x, v) -> x.best(v[0]), plain(0, 1)));
        list.add(new Call("odds", (x, v) -> x.odds(v[0], v[1], v[2]), place, place, plain(0, 100)));
        list.add(new Call("needed", (x, v) -> x.needed(v[0]), new Number(true, -1, places - 1)));
        list.add(new Call("write", (x, v) -> x.write(v[0], v[1], v[2], v[3]), place, place, plain(1, 3), plain(0, 9999)));
        list.add(new Call("drift", (x, v) -> x.drift(v[0], v[1]), plain(1, 99), plain(0, 100)));
        list.add(new Call("seed", (x, v) -> x.seed(v[0]), plain(0, 2147483647)));
        list.add(new Call("keep", (x, v) -> x.keep(v[0]), image));
        list.add(new Call("goBack", (x, v) -> x.goBack(v[0]), image));
        return list;
    }

    private interface Mixture {
        void of(Call call, int[] values);
    }

    private static void everyMixture(Call call, int[] values, int at, Mixture mixture) {
        if (at == values.length) {
            mixture.of(call, values.clone());
            return;
        }
        for (int v : call.numbers[at].edges()) {
            values[at] = v;
            everyMixture(call, values, at + 1, mixture);
        }
    }

    /** 0, if all numbers are within their bounds. */
    private static int dueBy(Call call, int[] values) {
        int due = 0;
        for (int k = 0; k < values.length; k++) {
            if (!call.numbers[k].holds(values[k])) {
                due = call.numbers[k].known ? Check.UNKNOWN : due == 0 ? Check.OUTSIDE : due;
            }
        }
        return due;
    }

    private static String nameOf(String state, Call call, int[] values) {
        StringBuilder b = new StringBuilder(state).append(' ').append(call.name).append('(');
        for (int k = 0; k < values.length; k++) {
            b.append(k == 0 ? "" : ", ").append(values[k]);
        }
        return b.append(')').toString();
    }

    private static void unknownThenOutside(String state, Supplier<TurnedPosts> made, List<Call> calls) {
        Check.sentence(0, "REFUSALS, of several the first in this order: UNKNOWN (a PLACE, ROAD, TRAVEL, IMAGE that there is not; "
                + "bits of such), OUTSIDE (another number out of its bounds), NOT (not now, as told), FULL.");
        for (Call c : calls) {
            everyMixture(c, new int[c.numbers.length], 0, (call, values) -> {
                int due = dueBy(call, values);
                if (due != 0) {
                    Check.due(nameOf(state, call, values), call.asked.of(made.get(), values), due);
                }
            });
        }
        Check.sentence(0, "What is refused changes nothing.");
        for (Call c : calls) {
            everyMixture(c, new int[c.numbers.length], 0, (call, values) -> {
                if (dueBy(call, values) != 0) {
                    Whole.unchanged(nameOf(state, call, values), made, x -> call.asked.of(x, values));
                }
            });
        }
    }

    private static void bitsOfPlaces() {
        Check.sentence(0, "UNKNOWN (a PLACE, ROAD, TRAVEL, IMAGE that there is not; bits of such)");
        int[] sets = {32, 33, 63, 1 << 9, 1 << 30, -1, -32, Integer.MIN_VALUE, Integer.MIN_VALUE | 31, Integer.MAX_VALUE};
        for (int set : sets) {
            Made.refused("rich right(" + set + ")", Check.UNKNOWN, Made::rich, x -> x.right(set));
        }
        int[] ofNew = {1, 2, 256, -1, Integer.MIN_VALUE, Integer.MAX_VALUE};
        for (int set : ofNew) {
            Made.refused("new right(" + set + ")", Check.UNKNOWN, Made::empty, x -> x.right(set));
        }
    }

    private static void not(String call, int due, ToIntFunction<TurnedPosts> asked) {
        Made.refused(call, due, Made::rich, asked);
    }

    private static void notBehindUnknownAndOutside() {
        Check.sentence(0, "OUTSIDE (another number out of its bounds), NOT (not now, as told), FULL.");
        not("turn(2, 1), no sides", Check.NOT, x -> x.turn(2, 1));
        not("turn(2, 99), no sides", Check.NOT, x -> x.turn(2, 99));
        not("turn(2, 0), no sides", Check.OUTSIDE, x -> x.turn(2, 0));
        not("turn(2, 100), no sides", Check.OUTSIDE, x -> x.turn(2, 100));
        not("turn(5, 100)", Check.UNKNOWN, x -> x.turn(5, 100));
        not("paint(0, 0, 999), itself", Check.NOT, x -> x.paint(0, 0, 999));
        not("paint(0, 2, 0), cannot be reached", Check.NOT, x -> x.paint(0, 2, 0));
        not("paint(2, 0, 0), no arms", Check.NOT, x -> x.paint(2, 0, 0));
        not("paint(4, 0, 5), fallen", Check.NOT, x -> x.paint(4, 0, 5));
        not("paint(0, 0, 1000), itself", Check.OUTSIDE, x -> x.paint(0, 0, 1000));
        not("paint(0, 2, -1), cannot be reached", Check.OUTSIDE, x -> x.paint(0, 2, -1));
        not("paint(4, 0, 1000), fallen", Check.OUTSIDE, x -> x.paint(4, 0, 1000));
        not("paint(5, 0, -1)", Check.UNKNOWN, x -> x.paint(5, 0, -1));
        not("paint(0, 5, -1)", Check.UNKNOWN, x -> x.paint(0, 5, -1));
        Made.refused("goBack(0), not kept", Check.NOT, Made::full, x -> x.goBack(0));
        Made.refused("goBack(1), not kept", Check.NOT, Made::full, x -> x.goBack(1));
        Made.refused("goBack(2), none kept", Check.UNKNOWN, Made::full, x -> x.goBack(2));
        Made.refused("goBack(-1), none kept", Check.UNKNOWN, Made::full, x -> x.goBack(-1));
    }

    private static void full(String call, int due, ToIntFunction<TurnedPosts> asked) {
        Made.refused(call, due, Made::full, asked);
    }

    private static void fullBehindAllOthers() {
        Check.sentence(0, "NOT (not now, as told), FULL.");
        for (int n = 1; n <= 8; n++) {
            int many = n;
            full("feed(" + n + ") at 400", Check.FULL, x -> x.feed(many, 0x3B));
        }
        full("feed(9) at 400", Check.OUTSIDE, x -> x.feed(9, 0x3B));
        full("seen, the 41st", Check.FULL, x -> x.seen(0, 1, 1));
        full("seen(0, 0, 1) at 40, no arm", Check.OUTSIDE, x -> x.seen(0, 0, 1));
        full("seen(0, 1, 4) at 40, no road", Check.OUTSIDE, x -> x.seen(0, 1, 4));
        full("seen(0, 1, 5) at 40", Check.UNKNOWN, x -> x.seen(0, 1, 5));
        full("seen(0, 0, 5) at 40", Check.UNKNOWN, x -> x.seen(0, 0, 5));
        full("write, the 21st", Check.FULL, x -> x.write(0, 4, 1, 9));
        full("write, the 21st, of edges", Check.FULL, x -> x.write(4, 4, 3, 9999));
        full("write(0, 4, 4, 9) at 20", Check.OUTSIDE, x -> x.write(0, 4, 4, 9));
        full("write(0, 5, 4, 9) at 20", Check.UNKNOWN, x -> x.write(0, 5, 4, 9));
    }

    /** The other half: a value just inside its bounds is not out of them. */
    private static void noRefusalInside() {
        Check.sentence(0, "OUTSIDE (another number out of its bounds)");
        for (Call c : callsOf(Made.RICH_PLACES, Made.RICH_ROADS)) {
            everyMixture(c, new int[c.numbers.length], 0, (call, values) -> {
                // of a sight all three places may be and the road not: the strangers' tests ask that
                if (dueBy(call, values) == 0 && !call.name.equals("seen")) {
                    int got = call.asked.of(Made.rich(), values);
                    Check.holds(nameOf("rich", call, values) + " is within its bounds", got != Check.UNKNOWN && got != Check.OUTSIDE);
                }
            });
        }
    }
}
