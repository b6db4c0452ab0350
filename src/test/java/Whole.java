import java.util.HashMap;
import java.util.LinkedHashMap;
import java.util.Map;
import java.util.function.Supplier;
import java.util.function.ToIntFunction;

/** All that an object can be asked. Groups are asked of objects made anew: asking changes some, and none has more than 512 calls. */
final class Whole {
    private final Map<String, Integer> answers = new LinkedHashMap<>();
    private TurnedPosts x;
    private int places;

    private Whole() {
    }

    private static final Map<Supplier<TurnedPosts>, Map<String, Integer>> KNOWN = new HashMap<>();

    static Map<String, Integer> of(Supplier<TurnedPosts> made) {
        Whole w = new Whole();
        w.take(made);
        w.counts();
        w.standing("");
        w.arms();
        w.take(made);
        w.land();
        w.strangers();
        w.take(made);
        w.walks();
        w.take(made);
        w.miles("raised ");
        w.take(made);
        w.text();
        w.take(made);
        w.image(0);
        w.take(made);
        w.image(1);
        return w.answers;
    }

    static void unchanged(String call, Supplier<TurnedPosts> made, ToIntFunction<TurnedPosts> asked) {
        same(call, KNOWN.computeIfAbsent(made, Whole::of), of(() -> {
            TurnedPosts y = made.get();
            asked.applyAsInt(y);
            return y;
        }));
    }

    /** One answer for all, so that the count of answers tells of sentences and not of this table's length. */
    static void same(String call, Map<String, Integer> before, Map<String, Integer> behind) {
        StringBuilder others = new StringBuilder();
        for (Map.Entry<String, Integer> e : before.entrySet()) {
            if (!e.getValue().equals(behind.get(e.getKey()))) {
                others.append(' ').append(e.getKey()).append(": ").append(e.getValue()).append(", then ").append(behind.get(e.getKey()));
            }
        }
        Check.holds("all as it was behind " + call + others, before.equals(behind));
    }

    private void take(Supplier<TurnedPosts> made) {
        x = made.get();
        places = x.told(0);
    }

    private void put(String call, int answer) {
        answers.put(call, answer);
    }

    private void counts() {
        for (int what = 0; what <= 7; what++) {
            put("told(" + what + ")", x.told(what));
        }
        put("fault()", x.fault());
        for (int r = 0; r < x.told(1); r++) {
            for (int what = 0; what <= 2; what++) {
                put("road(" + r + ", " + what + ")", x.road(r, what));
            }
        }
    }

    private void standing(String name) {
        for (int p = 0; p < places; p++) {
            for (int what = 0; what <= 2; what++) {
                put(name + "post(" + p + ", " + what + ")", x.post(p, what));
            }
        }
    }

    private void arms() {
        for (int p = 0; p < places; p++) {
            for (int i = 0; i < x.post(p, 0); i++) {
                for (int what = 0; what <= 2; what++) {
                    put("arm(" + p + ", " + i + ", " + what + ")", x.arm(p, i, what));
                }
            }
        }
    }

    private void land() {
        for (int p = 0; p < places; p++) {
            for (int t = 0; t < places; t++) {
                put("far(" + p + ", " + t + ")", x.far(p, t));
                put("miles(" + p + ", " + t + ")", x.miles(p, t));
            }
        }
    }

    private void strangers() {
        for (int p = 0; p < places; p++) {
            put("fits(" + p + ")", x.fits(p));
            put("needed(" + p + ")", x.needed(p));
        }
        put("sure()", x.sure());
        put("quarrel(false)", x.quarrel(false));
        put("quarrel(true)", x.quarrel(true));
        put("fewest()", x.fewest());
        put("best(0)", x.best(0));
        put("best(1)", x.best(1));
        put("judge()", x.judge());
    }

    private void walks() {
        for (int a = 0; a < places; a++) {
            for (int t = 0; t < places; t++) {
                put("walk(" + a + ", " + t + ", 1)", x.walk(a, t, 1));
                put("odds(" + a + ", " + t + ", 37)", x.odds(a, t, 37));
            }
        }
        put("forget()", x.forget());
        put("tear()", x.tear());
    }

    /** With all arms up, so that paint on fallen ones shows too. */
    private void miles(String name) {
        for (int p = 0; p < places; p++) {
            for (int i = 0; i < x.post(p, 0); i++) {
                x.fell(p, i, false);
            }
            for (int t = 0; t < places; t++) {
                put(name + "miles(" + p + ", " + t + ")", x.miles(p, t));
            }
        }
        put(name + "seed(0)", x.seed(0));
    }

    private void image(int i) {
        String name = "goBack(" + i + ") ";
        put(name, x.goBack(i));
        standing(name);
        miles(name);
    }

    private void text() {
        put("land() of the text", x.land());
        put("fault() of the text", x.fault());
        put("told(0) by the text", x.told(0));
    }
}
