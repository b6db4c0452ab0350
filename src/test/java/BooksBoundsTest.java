import java.math.BigInteger;
import java.util.function.Supplier;

/** Promises 26 to 32 (write, tear, judge, drift, seed, keep, goBack), sentence by sentence, at the bounds. */
public final class BooksBoundsTest {
    private static final int[] NO_PLACES = {-1, 5, Integer.MIN_VALUE, Integer.MAX_VALUE};
    private static final int[] NO_IMAGES = {-1, 2, Integer.MIN_VALUE, Integer.MAX_VALUE};
    private static final int HIGHEST = 2147483647;

    public static void main(String[] args) {
        behindTheBook();
        endsAndMilesOfWalks();
        writeRefused();
        twentyWalks();
        tornBook();
        noneIsWrong();
        firstThatIsOther();
        nightsAndOdds();
        driftRefused();
        belowTheOdds();
        theSeedWrapsRound();
        turnsWrapRound();
        noSecondDraw();
        costThen();
        seeds();
        seedRefused();
        keptImages();
        keepRefused();
        backToImages();
        goBackRefused();
        goBackNotKept();
        Check.end("BooksBoundsTest");
    }

    private static void behindTheBook() {
        Check.sentence(26, "A walk behind THE BOOK: how many.");
        TurnedPosts x = Check.landOf(Check.FIVE);
        Check.due("the first", x.write(0, 4, 1, 10), 1);
        Check.due("the same again", x.write(0, 4, 1, 10), 2);
        Check.due("one that is not so", x.write(4, 0, 1, 11), 3);
        Check.due("it is behind the others", x.judge(), 2);
        Check.due("told(5)", x.told(5), 3);
    }

    private static void endsAndMilesOfWalks() {
        Check.sentence(0, "THE BOOK tells walks (20 at most: from, to, how it ended, miles 0 .. 9999)");
        for (int end = 1; end <= 3; end++) {
            Check.due("end " + end + ", miles 0", Check.landOf(Check.FIVE).write(0, 4, end, 0), 1);
            Check.due("end " + end + ", miles 9999", Check.landOf(Check.FIVE).write(4, 0, end, 9999), 1);
        }
        Check.due("from a place to itself", Check.landOf(Check.FIVE).write(4, 4, 1, 0), 1);
        Check.due("to what cannot be reached", Check.landOf("places 9;").write(0, 8, 2, 0), 1);
        TurnedPosts x = Check.landOf(Check.FIVE);
        x.write(0, 4, 1, 9999);
        Check.due("9999 miles are other miles", x.judge(), 0);
    }

    private static void writeRefused() {
        Check.sentence(26, "UNKNOWN, OUTSIDE (how it ended 1 .. 3)");
        for (int p : NO_PLACES) {
            Made.refused("write(" + p + ", 0, 1, 0)", Check.UNKNOWN, Made::rich, x -> x.write(p, 0, 1, 0));
            Made.refused("write(0, " + p + ", 1, 0)", Check.UNKNOWN, Made::rich, x -> x.write(0, p, 1, 0));
            Made.refused("write(0, " + p + ", 4, 0)", Check.UNKNOWN, Made::rich, x -> x.write(0, p, 4, 0));
            Made.refused("write(" + p + ", 0, 1, 10000)", Check.UNKNOWN, Made::rich, x -> x.write(p, 0, 1, 10000));
        }
        for (int end : new int[] {0, 4, -1, Integer.MIN_VALUE, Integer.MAX_VALUE}) {
            Made.refused("write(0, 0, " + end + ", 0)", Check.OUTSIDE, Made::rich, x -> x.write(0, 0, end, 0));
        }
        for (int miles : new int[] {-1, 10000, Integer.MIN_VALUE, Integer.MAX_VALUE}) {
            Made.refused("write(0, 0, 1, " + miles + ")", Check.OUTSIDE, Made::rich, x -> x.write(0, 0, 1, miles));
        }
    }

    private static void twentyWalks() {
        Check.sentence(26, "FULL (20)");
        TurnedPosts x = Check.landOf(Check.FIVE);
        for (int k = 1; k <= 20; k++) {
            Check.due("walk " + k, x.write(0, 4, 1, 10), k);
        }
        Check.due("the 21st", x.write(0, 4, 3, 11), Check.FULL);
        Check.due("the 21st is not", x.told(5), 20);
        Check.due("nor judged", x.judge(), Check.NONE);
        Check.due("an end out of its bounds, at 20", x.write(0, 4, 0, 10), Check.OUTSIDE);
        Check.due("miles out of their bounds, at 20", x.write(0, 4, 1, -1), Check.OUTSIDE);
        Check.due("no place, at 20", x.write(5, 4, 1, 10), Check.UNKNOWN);
        Made.refused("the 21st", Check.FULL, Made::full, y -> y.write(0, 4, 1, 10));
        x.tear();
        Check.due("room again", x.write(0, 4, 1, 10), 1);
    }

    private static void tornBook() {
        Check.sentence(27, "THE BOOK is empty: how many walks it had.");
        TurnedPosts x = Made.full();
        Check.due("twenty", x.tear(), 20);
        Check.due("none", x.tear(), 0);
        Check.due("told(5)", x.told(5), 0);
        Check.due("nothing is wrong in it", x.judge(), Check.NONE);
        Check.due("what was seen stays", x.told(4), 40);
        Check.due("turns stay", x.told(7), 8);
        x.write(0, 0, 1, 0);
        Check.due("one", x.tear(), 1);
        Check.due("of a new object", Made.empty().tear(), 0);
    }

    private static void noneIsWrong() {
        Check.sentence(28, "NONE");
        Check.due("of a new object", Made.empty().judge(), Check.NONE);
        TurnedPosts x = Check.landOf("places 4;road 0 1 3;road 1 2 4;");
        Check.due("an empty book", x.judge(), Check.NONE);
        x.write(0, 2, 1, 7);
        x.write(0, 3, 2, 0);
        x.write(3, 3, 1, 0);
        Check.due("all are so", x.judge(), Check.NONE);
        x.fell(1, 1, true);
        x.fell(1, 1, false);
        x.paint(0, 2, 99);
        Check.due("up again, and painted", x.judge(), Check.NONE);
        x.turn(1, 1);
        x.tear();
        x.write(0, 2, 3, 6);
        Check.due("round", x.judge(), Check.NONE);
        TurnedPosts first = Check.landOf("places 3;road 0 1 3;road 0 2 4;");
        first.turn(0, 1);
        first.write(0, 1, 3, 8);
        Check.due("round by the first place's post, as it stands", first.judge(), Check.NONE);
    }

    private static void firstThatIsOther() {
        Check.sentence(28, "WRONG");
        TurnedPosts x = Check.landOf("places 4;road 0 1 3;road 1 2 4;");
        for (int k = 0; k < 19; k++) {
            x.write(0, 2, 1, 7);
        }
        x.write(0, 2, 1, 8);
        Check.due("a mile more, the last of twenty", x.judge(), 19);
        x.turn(1, 1);
        Check.due("all are other now: the first", x.judge(), 0);
        x.right(15);
        Check.due("as before", x.judge(), 19);
        int[][] others = {{1, 6}, {2, 7}, {3, 7}, {1, 0}, {1, 9999}};
        for (int[] other : others) {
            x.tear();
            x.write(0, 2, 1, 7);
            x.write(0, 2, other[0], other[1]);
            Check.due("ended " + other[0] + ", miles " + other[1], x.judge(), 1);
        }
        Check.sentence(0, "WRONG: the first that is other now; NONE.");
        x.tear();
        x.write(1, 0, 1, 3);
        x.write(0, 1, 1, 4);
        x.write(0, 2, 1, 8);
        Check.due("of two the first", x.judge(), 1);
    }

    /** The document's draws in whole numbers without bounds. */
    private static BigInteger drawn = BigInteger.ZERO;

    private static int draw(int n) {
        drawn = drawn.multiply(BigInteger.valueOf(1103515245)).add(BigInteger.valueOf(12345)).mod(BigInteger.ONE.shiftLeft(31));
        return drawn.divide(BigInteger.valueOf(65536)).mod(BigInteger.valueOf(n)).intValueExact();
    }

    private static void nightsAndOdds() {
        Check.sentence(29, "n nights (1 .. 99) BY DRAWS (o 0 .. 100)");
        for (int n : new int[] {1, 2, 99}) {
            for (int o : new int[] {0, 1, 50, 99, 100}) {
                TurnedPosts x = Check.landOf(Made.STAR);
                int[] sides = {5, 1, 1, 1, 1, 1, 0};
                int turn = 0;
                drawn = BigInteger.valueOf(4711);
                x.seed(4711);
                for (int k = 0; k < n; k++) {
                    for (int p = 0; p < 7; p++) {
                        boolean turned = draw(100) < o;
                        int more = turned && sides[p] > 0 ? draw(sides[p]) : 0;
                        turn = p == 0 ? (turn + more) % 5 : turn;
                    }
                }
                Check.due("drift(" + n + ", " + o + ")", x.drift(n, o), 0);
                Check.due("turn of 0 by drift(" + n + ", " + o + ")", x.post(0, 1), turn);
                Check.due("one side stays by drift(" + n + ", " + o + ")", x.told(7) & ~1, 0);
                Check.due("seed by drift(" + n + ", " + o + ")", x.seed(0), drawn.intValueExact());
            }
        }
    }

    private static void driftRefused() {
        Check.sentence(29, "OUTSIDE");
        for (int n : new int[] {0, 100, -1, Integer.MIN_VALUE, Integer.MAX_VALUE}) {
            Made.refused("drift(" + n + ", 100)", Check.OUTSIDE, Made::rich, x -> x.drift(n, 100));
        }
        for (int o : new int[] {-1, 101, Integer.MIN_VALUE, Integer.MAX_VALUE}) {
            Made.refused("drift(1, " + o + ")", Check.OUTSIDE, Made::rich, x -> x.drift(1, o));
            Made.refused("drift(0, " + o + ")", Check.OUTSIDE, Made::rich, x -> x.drift(0, o));
        }
    }

    /** A seed from which the next draw of 100 is this, and the draw of two behind it 1. */
    private static int seedFor(int first) {
        for (int seed = 0; seed < 1000000; seed++) {
            drawn = BigInteger.valueOf(seed);
            if (draw(100) == first && draw(2) == 1) {
                return seed;
            }
        }
        return Check.NONE;
    }

    private static int turnedBy(int seed, int o) {
        TurnedPosts x = Check.landOf("places 3;road 0 1 1;road 0 2 1;");
        x.seed(seed);
        x.drift(1, o);
        return x.post(0, 1);
    }

    private static void belowTheOdds() {
        Check.sentence(0, "a DRAW of 100 below o: it is TURNED");
        for (int first : new int[] {0, 1, 50, 98, 99}) {
            int seed = seedFor(first);
            Check.holds("a seed for " + first, seed != Check.NONE);
            Check.due("a draw of " + first + " below " + first, turnedBy(seed, first), 0);
            Check.due("a draw of " + first + " below " + (first + 1), turnedBy(seed, first + 1), 1);
        }
    }

    private static void theSeedWrapsRound() {
        Check.sentence(0, "it becomes it times 1103515245 and 12345, left over by 2 to the 31");
        for (int seed : new int[] {0, 1, 2, 65535, 65536, 1073741824, HIGHEST - 1, HIGHEST}) {
            TurnedPosts x = Check.landOf("places 1;");
            x.seed(seed);
            x.drift(1, 100);
            drawn = BigInteger.valueOf(seed);
            draw(100);
            Check.due("behind " + seed, x.seed(0), drawn.intValueExact());
        }
        Check.sentence(0, "THE SEED (0 at first");
        TurnedPosts x = Check.landOf("places 1;");
        x.drift(1, 0);
        Check.due("behind the first draw", x.seed(0), 12345);
        Check.due("of a new object", Made.empty().seed(5), 0);
        Check.sentence(0, "the DRAW of n is it / 65536, left over by n");
        int[][] seedAndDraw = {{65535, 0}, {65536, 1}, {65536 * 99, 99}, {65536 * 100 - 1, 99}, {65536 * 100, 0}, {HIGHEST, 67}};
        for (int[] pair : seedAndDraw) {
            // a second draw of one side follows, if the first was below o
            int before = seedAhead(pair[0]);
            Check.due("draws by " + pair[0] + ", o " + pair[1], drawsOfOneNight(before, pair[1]), 1);
            Check.due("draws by " + pair[0] + ", o " + (pair[1] + 1), drawsOfOneNight(before, pair[1] + 1), 2);
        }
    }

    /** The seed that becomes this one by a draw. */
    private static int seedAhead(int seed) {
        BigInteger all = BigInteger.ONE.shiftLeft(31);
        BigInteger less = BigInteger.valueOf(seed).subtract(BigInteger.valueOf(12345));
        return less.multiply(BigInteger.valueOf(1103515245).modInverse(all)).mod(all).intValueExact();
    }

    /** How many draws place 0 of two takes; both have one side. */
    private static int drawsOfOneNight(int seed, int o) {
        TurnedPosts x = Check.landOf("places 2;road 0 1 1;");
        x.seed(seed);
        x.drift(1, o);
        int behind = x.seed(0);
        for (int ofFirst = 1; ofFirst <= 2; ofFirst++) {
            drawn = BigInteger.valueOf(seed);
            for (int k = 0; k < ofFirst; k++) {
                draw(1);
            }
            if (draw(100) < o) {
                draw(1);
            }
            if (drawn.intValueExact() == behind) {
                return ofFirst;
            }
        }
        return Check.NONE;
    }

    private static void turnsWrapRound() {
        Check.sentence(0, "it is TURNED by a DRAW of its SIDES more (left over by SIDES");
        for (int turn = 0; turn < 5; turn++) {
            for (int seed = 0; seed < 40; seed++) {
                TurnedPosts x = Check.landOf(Made.STAR);
                if (turn > 0) {
                    x.turn(0, turn);
                }
                x.seed(seed * 7919);
                x.drift(1, 100);
                drawn = BigInteger.valueOf(seed * 7919L);
                draw(100);
                Check.due("turned by " + turn + " and more, seed " + seed * 7919, x.post(0, 1), (turn + draw(5)) % 5);
            }
        }
    }

    private static void noSecondDraw() {
        Check.sentence(0, "no second DRAW without SIDES");
        // the draws of a night on which nobody turns, and of one on which all do
        seedBehind("places 1;", 1, 1);
        seedBehind("places 9;", 9, 9);
        seedBehind("places 2;road 0 1 1;", 2, 4);
        seedBehind("places 3;road 0 1 1;", 3, 5);
        Check.due("no draw without places", Made.empty().drift(99, 100), 0);
        TurnedPosts none = new TurnedPosts();
        none.drift(99, 100);
        Check.due("the seed then", none.seed(1), 0);
    }

    private static void seedBehind(String land, int drawsOfNone, int drawsOfAll) {
        for (int o = 0; o <= 100; o += 100) {
            TurnedPosts x = Check.landOf(land);
            x.drift(1, o);
            drawn = BigInteger.ZERO;
            for (int k = 0; k < (o == 0 ? drawsOfNone : drawsOfAll); k++) {
                draw(100);
            }
            Check.due("seed of '" + land + "' behind drift(1, " + o + ")", x.seed(0), drawn.intValueExact());
        }
    }

    private static void costThen() {
        Check.sentence(29, "COST then");
        TurnedPosts x = Check.landOf(Made.FULL_LAND);
        Check.due("nobody turns", x.drift(99, 0), 0);
        for (int k = 0; k < 10; k++) {
            int cost = x.drift(1, 60);
            Check.due("cost behind night " + k, cost, x.told(6));
        }
        TurnedPosts lost = Check.landOf("places 2;goes 0 1 99;");
        Check.due("cannot be reached", lost.drift(1, 100), 99000);
        for (int i = 0; i < 5; i++) {
            x.fell(0, i, true);
        }
        Check.due("all lost", x.drift(1, 100), 1980000);
    }

    private static void seeds() {
        Check.sentence(30, "THE SEED becomes v (0 .. 2147483647): what it was.");
        TurnedPosts x = new TurnedPosts();
        Check.due("at first", x.seed(1), 0);
        Check.due("then", x.seed(HIGHEST), 1);
        Check.due("the highest", x.seed(0), HIGHEST);
        Check.due("the least", x.seed(0), 0);
    }

    private static void seedRefused() {
        Check.sentence(30, "OUTSIDE");
        for (int v : new int[] {-1, -2, Integer.MIN_VALUE}) {
            Made.refused("seed(" + v + ")", Check.OUTSIDE, Made::rich, x -> x.seed(v));
        }
    }

    private static void keptImages() {
        Check.sentence(31, "IMAGE i becomes what is so: 1.");
        TurnedPosts x = Made.withoutText();
        for (int i = 0; i <= 1; i++) {
            Check.due("keep(" + i + ")", x.keep(i), 1);
            Check.due("keep(" + i + ") again", x.keep(i), 1);
        }
        Check.due("of a new object", Made.empty().keep(0), 1);
        Check.due("of a new object, the other", Made.empty().keep(1), 1);
        // the later of two is kept, and by one image the other is not touched
        TurnedPosts y = Check.landOf(Made.STAR);
        y.keep(0);
        y.turn(0, 1);
        y.keep(1);
        y.turn(0, 1);
        y.keep(1);
        y.turn(0, 1);
        y.goBack(1);
        Check.due("the later", y.post(0, 1), 2);
        y.goBack(0);
        Check.due("the other", y.post(0, 1), 0);
        y.goBack(1);
        Check.due("the later, again", y.post(0, 1), 2);
    }

    private static void keepRefused() {
        Check.sentence(31, "UNKNOWN");
        for (int i : NO_IMAGES) {
            Made.refused("keep(" + i + ")", Check.UNKNOWN, Made::rich, x -> x.keep(i));
            Made.refused("keep(" + i + ") on none", Check.UNKNOWN, Made::empty, x -> x.keep(i));
        }
    }

    private static void backToImages() {
        Check.sentence(32, "What is so becomes IMAGE i: 1.");
        for (int image = 0; image <= 1; image++) {
            int i = image;
            Supplier<TurnedPosts> kept = () -> {
                TurnedPosts x = Made.withoutText();
                x.keep(i);
                return x;
            };
            Whole.unchanged("goBack(" + i + ") at once", kept, x -> x.goBack(i));
            Whole.unchanged("goBack(" + i + ") behind changes", kept, x -> {
                x.turn(0, 1);
                x.turn(3, 1);
                x.fell(1, 0, true);
                x.fell(4, 0, false);
                x.paint(4, 0, 3);
                x.paint(0, 4, 998);
                x.drift(3, 80);
                return x.goBack(i);
            });
            Check.due("goBack(" + i + ")", kept.get().goBack(i), 1);
        }
        Check.sentence(0, "IMAGES 0, 1 keep TURNS, what has FALLEN, what is PAINTED, THE SEED.");
        TurnedPosts x = Check.landOf(Made.STAR);
        x.keep(0);
        x.seen(0, 1, 2);
        x.write(0, 0, 1, 0);
        Check.feed(x, "abc");
        x.goBack(0);
        Check.due("what was seen stays", x.told(4), 1);
        Check.due("the book stays", x.told(5), 1);
        Check.due("the text stays", x.told(3), 3);
        TurnedPosts none = new TurnedPosts();
        none.seed(8);
        none.keep(1);
        none.seed(9);
        Check.due("without places", none.goBack(1), 1);
        Check.due("the seed alone", none.seed(0), 8);
    }

    private static void goBackRefused() {
        Check.sentence(32, "UNKNOWN");
        for (int i : NO_IMAGES) {
            Made.refused("goBack(" + i + ")", Check.UNKNOWN, Made::rich, x -> x.goBack(i));
            Made.refused("goBack(" + i + ") on none", Check.UNKNOWN, Made::empty, x -> x.goBack(i));
        }
    }

    private static TurnedPosts keptAlone(int i) {
        TurnedPosts x = Made.full();
        x.keep(i);
        x.turn(1, 1);
        return x;
    }

    private static void goBackNotKept() {
        Check.sentence(32, "NOT: it was not kept");
        for (int image = 0; image <= 1; image++) {
            int i = image;
            Made.refused("goBack(" + i + ")", Check.NOT, Made::full, x -> x.goBack(i));
            Made.refused("goBack(" + i + ") on none", Check.NOT, Made::empty, x -> x.goBack(i));
            Made.refused("goBack(" + i + "), the other kept", Check.NOT, () -> keptAlone(1 - i), x -> x.goBack(i));
            Check.due("the one kept", keptAlone(i).goBack(i), 1);
            Supplier<TurnedPosts> gone = () -> {
                TurnedPosts x = keptAlone(i);
                x.land();
                return x;
            };
            Made.refused("goBack(" + i + ") behind land()", Check.NOT, gone, x -> x.goBack(i));
        }
    }
}
