/** Promises 15 to 21: walk, way, seen, forget, fits, sure, quarrel. */
public final class StrangersTest {
    /** A ring of four with one place apart. */
    private static final String RING = "places 5;road 0 1 1;road 1 2 2;road 2 3 4;road 3 0 8;";

    public static void main(String[] args) {
        comes();
        lost();
        round();
        refusedWalks();
        seeing();
        fullOfSights();
        fitting();
        sure();
        quarrelWithLand();
        quarrelOfTwo();
        Check.end("StrangersTest");
    }

    private static void walks(TurnedPosts x, int a, int t, int end, int miles, int where) {
        String name = "walk(" + a + ", " + t + ", ";
        Check.due(name + "0)", x.walk(a, t, 0), end);
        Check.due(name + "1)", x.walk(a, t, 1), miles);
        Check.due(name + "2)", x.walk(a, t, 2), where);
    }

    private static void goes(TurnedPosts x, int a, int t, int... places) {
        String name = "way(" + a + ", " + t + ", ";
        for (int i = 0; i < places.length; i++) {
            Check.due(name + i + ")", x.way(a, t, i), places[i]);
        }
        Check.due(name + places.length + ")", x.way(a, t, places.length), Check.NONE);
        Check.due(name + "-1)", x.way(a, t, -1), Check.NONE);
        Check.due(name + "MAX)", x.way(a, t, Integer.MAX_VALUE), Check.NONE);
        Check.due(name + "MIN)", x.way(a, t, Integer.MIN_VALUE), Check.NONE);
    }

    private static void comes() {
        TurnedPosts x = Check.landOf(RING);
        walks(x, 0, 3, 1, 7, 3);
        goes(x, 0, 3, 0, 1, 2, 3);
        walks(x, 2, 2, 1, 0, 2);
        goes(x, 2, 2, 2);
        walks(x, 4, 4, 1, 0, 4);
        x.turn(0, 1);
        walks(x, 0, 3, 1, 8, 3);
        goes(x, 0, 3, 0, 3);
        x.paint(3, 0, 1);
        walks(x, 3, 1, 1, 6, 1);
    }

    private static void lost() {
        TurnedPosts x = Check.landOf(RING);
        walks(x, 0, 4, 2, 0, 0);
        goes(x, 0, 4, 0);
        walks(x, 4, 0, 2, 0, 4);
        x.fell(2, 1, true);
        walks(x, 0, 3, 2, 3, 2);
        goes(x, 0, 3, 0, 1, 2);
        walks(x, 0, 2, 1, 3, 2);
        x.fell(2, 1, false);
        walks(x, 0, 3, 1, 7, 3);
    }

    private static void round() {
        TurnedPosts x = Check.landOf(RING);
        x.turn(1, 1);
        walks(x, 0, 2, 3, 2, 0);
        goes(x, 0, 2, 0, 1, 0);
        // it ends at the place where it is again, which need not be where it began
        TurnedPosts y = Check.landOf("places 9;road 0 1 1;road 1 2 1;road 2 3 1;road 3 4 1;road 4 5 1;road 5 6 1;"
                + "road 6 7 1;road 7 8 1;");
        y.turn(7, 1);
        walks(y, 0, 8, 3, 8, 6);
        goes(y, 0, 8, 0, 1, 2, 3, 4, 5, 6, 7, 6);
    }

    private static void refusedWalks() {
        TurnedPosts x = Check.landOf(RING);
        Check.due("walk(5, 0, 0)", x.walk(5, 0, 0), Check.UNKNOWN);
        Check.due("walk(0, 5, 0)", x.walk(0, 5, 0), Check.UNKNOWN);
        Check.due("walk(-1, 0, 9)", x.walk(-1, 0, 9), Check.UNKNOWN);
        Check.due("walk(0, -1, 9)", x.walk(0, -1, 9), Check.UNKNOWN);
        Check.due("walk(0, 0, 3)", x.walk(0, 0, 3), Check.OUTSIDE);
        Check.due("walk(0, 0, -1)", x.walk(0, 0, -1), Check.OUTSIDE);
        Check.due("way(5, 0, 0)", x.way(5, 0, 0), Check.UNKNOWN);
        Check.due("way(0, 5, 0)", x.way(0, 5, 0), Check.UNKNOWN);
        Check.due("way(-1, 0, -1)", x.way(-1, 0, -1), Check.UNKNOWN);
    }

    private static void seeing() {
        TurnedPosts x = Check.landOf(Check.FIVE);
        Check.due("seen(2, 4, 3)", x.seen(2, 4, 3), 1);
        Check.due("seen(2, 4, 3) again", x.seen(2, 4, 3), 2);
        Check.due("seen(2, 4, 4)", x.seen(2, 4, 4), Check.OUTSIDE);
        Check.due("seen(2, 4, 2)", x.seen(2, 4, 2), Check.OUTSIDE);
        Check.due("seen(2, 2, 3)", x.seen(2, 2, 3), Check.OUTSIDE);
        Check.due("seen(5, 0, 0)", x.seen(5, 0, 0), Check.UNKNOWN);
        Check.due("seen(0, 5, 0)", x.seen(0, 5, 0), Check.UNKNOWN);
        Check.due("seen(0, 0, 5)", x.seen(0, 0, 5), Check.UNKNOWN);
        Check.due("seen(0, 0, -1)", x.seen(0, 0, -1), Check.UNKNOWN);
        x.fell(1, 1, true);
        Check.due("seen of a fallen arm", x.seen(1, 4, 2), 3);
        Check.due("fits with a fallen arm", x.fits(1), 1);
        Check.due("how many", x.told(4), 3);
        Check.due("forget()", x.forget(), 3);
        Check.due("forget() again", x.forget(), 0);
        Check.due("none", x.told(4), 0);
        Check.due("fits again", x.fits(1), 7);
        TurnedPosts apart = Check.landOf(RING);
        Check.due("seen what cannot be reached", apart.seen(0, 4, 1), Check.OUTSIDE);
    }

    private static void fullOfSights() {
        TurnedPosts x = Check.landOf(Check.FIVE);
        for (int k = 1; k <= 39; k++) {
            x.seen(2, 4, 3);
        }
        Check.due("the 40th", x.seen(0, 4, 2), 40);
        Check.due("the 41st", x.seen(0, 4, 2), Check.FULL);
        Check.due("OUTSIDE ahead of FULL", x.seen(0, 0, 1), Check.OUTSIDE);
        Check.due("UNKNOWN ahead of FULL", x.seen(9, 0, 1), Check.UNKNOWN);
        Check.due("the 40th counts", x.fits(0), 2);
        Check.due("forget 40", x.forget(), 40);
        Check.due("room again", x.seen(0, 4, 2), 1);
    }

    private static void fitting() {
        TurnedPosts x = Check.landOf(Check.FIVE);
        // arm 0 of post 1 tells 0, arm 1 tells the rest; sides lead to 0, 2, 3
        x.seen(1, 0, 3);
        Check.due("turned by two", x.fits(1), 4);
        Check.due("others as they were", x.fits(2), 7);
        x.seen(1, 4, 0);
        Check.due("two that agree", x.fits(1), 4);
        x.seen(1, 4, 2);
        Check.due("two that do not", x.fits(1), 0);
        x.turn(1, 1);
        Check.due("how it stands is no matter", x.fits(1), 0);
        Check.due("fits(5)", x.fits(5), Check.UNKNOWN);
        Check.due("fits(-1)", x.fits(-1), Check.UNKNOWN);
        TurnedPosts lone = Check.landOf(RING);
        Check.due("without sides", lone.fits(4), 1);
        Check.due("two sides", lone.fits(0), 3);
        TurnedPosts star = Check.landOf("places 6;road 0 1 1;road 0 2 1;road 0 3 1;road 0 4 1;road 0 5 1;");
        Check.due("five sides", star.fits(0), 31);
        star.seen(0, 5, 4);
        Check.due("turned by four", star.fits(0), 16);
        star.seen(1, 5, 0);
        Check.due("one side", star.fits(1), 1);
    }

    private static void sure() {
        Check.due("sure() without places", new TurnedPosts().sure(), 0);
        TurnedPosts x = Check.landOf(RING);
        Check.due("only the one without sides", x.sure(), 16);
        x.seen(0, 1, 3);
        x.seen(3, 0, 0);
        x.seen(2, 0, 1);
        Check.due("those too", x.sure(), 29);
        x.seen(0, 1, 1);
        Check.due("one that nothing fits", x.sure(), 28);
    }

    private static void quarrelWithLand() {
        Check.due("quarrel without places", new TurnedPosts().quarrel(false), Check.NONE);
        TurnedPosts x = Check.landOf(Check.FIVE);
        Check.due("all in truth", x.quarrel(false), Check.NONE);
        x.turn(0, 1);
        Check.due("turns are no quarrel", x.quarrel(false), Check.NONE);
        x.paint(3, 4, 2);
        Check.due("one", x.quarrel(false), 34);
        x.paint(3, 0, 2);
        Check.due("by t", x.quarrel(false), 30);
        x.paint(1, 4, 0);
        Check.due("by place", x.quarrel(false), 14);
        x.paint(1, 4, 6);
        Check.due("painted back", x.quarrel(false), 30);
        x.fell(3, 0, true);
        Check.due("a fallen arm quarrels with none", x.quarrel(false), 34);
        x.fell(3, 2, true);
        Check.due("nor the other", x.quarrel(false), Check.NONE);
    }

    private static void quarrelOfTwo() {
        Check.due("quarrel without places", new TurnedPosts().quarrel(true), Check.NONE);
        TurnedPosts x = Check.landOf("places 4;road 0 1 4;road 1 2 3;road 2 3 2;");
        Check.due("all in truth", x.quarrel(true), Check.NONE);
        x.turn(1, 1);
        Check.due("turns are no quarrel", x.quarrel(true), Check.NONE);
        x.paint(1, 3, 9);
        Check.due("0 with 1", x.quarrel(true), 3);
        x.paint(0, 3, 13);
        Check.due("1 with 2", x.quarrel(true), 13);
        x.paint(2, 3, 6);
        Check.due("none where q is t", x.quarrel(true), Check.NONE);
        Check.due("though with the land", x.quarrel(false), 3);
        x.paint(3, 0, 0);
        Check.due("3 with 2", x.quarrel(true), 30);
        x.fell(2, 0, true);
        Check.due("with one that fell", x.quarrel(true), Check.NONE);
        x.fell(2, 0, false);
        x.fell(3, 0, true);
        Check.due("by one that fell", x.quarrel(true), Check.NONE);
    }
}
