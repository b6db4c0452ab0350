/** Promises 22 to 25 (fewest, best, odds, needed), sentence by sentence, at the bounds. */
public final class HelpBoundsTest {
    private static final int[] NO_PLACES = {-1, 5, Integer.MIN_VALUE, Integer.MAX_VALUE};
    private static final int BILLION = 1000000000;
    /** Place 0's side i leads to place i and one; 4 alone has a second road, to 1. */
    private static final String FAN = "places 5;road 0 1 1;road 0 2 1;road 0 3 1;road 0 4 1;road 4 1 1;";

    public static void main(String[] args) {
        fewestIsNone();
        fewestIsAll();
        fewestAheadOfLeast();
        leastOfLikeSets();
        fewestOfThoseReached();
        bestPlace();
        bestWithoutPlaces();
        bestOfLikeOnes();
        bestAlone();
        bestRefused();
        oddsOfNoneAndAll();
        oddsOfOneSide();
        oddsAsItIs();
        oddsCut();
        oddsInRisingOrder();
        oddsOfThoseWhoDoNotCome();
        oddsRefused();
        neededArms();
        neededOfThoseWhoCome();
        neededRefused();
        Check.end("HelpBoundsTest");
    }

    private static void fewestIsNone() {
        Check.sentence(22, "FEWEST POSTS: the SET.");
        Check.due("of a new object", Made.empty().fewest(), 0);
        Check.due("no travels", Check.landOf(Made.CHAIN).fewest(), 0);
        TurnedPosts idle = Check.landOf(Made.CHAIN);
        idle.turn(4, 1);
        idle.fell(0, 0, true);
        Check.due("no travels, posts turned", idle.fewest(), 0);
        TurnedPosts x = Check.landOf(Made.FULL_LAND);
        Check.due("all come", x.fewest(), 0);
        x.turn(6, 1);
        x.paint(0, 1, 0);
        Check.due("a turn on nobody's way, and paint", x.fewest(), 0);
        x.turn(0, 1);
        Check.due("the one on all ways", x.fewest(), 1);
        x.right(1);
        x.fell(0, 1, true);
        Check.due("an arm nobody goes by", x.fewest(), 0);
        x.fell(0, 4, true);
        Check.due("an arm somebody goes by", x.fewest(), 1);
        Check.due("nothing is set right by asking", x.post(0, 2), 18);
    }

    private static void fewestIsAll() {
        Check.sentence(0, "FEWEST POSTS to be SET RIGHT so that all TRAVELS that can be reached COME: the SET");
        TurnedPosts x = Check.landOf(Made.CHAIN + "goes 0 8 1;goes 8 0 1;");
        for (int p = 1; p < 8; p++) {
            x.turn(p, 1);
        }
        Check.due("all but the ends", x.fewest(), 254);
        x.fell(8, 0, true);
        Check.due("the last too", x.fewest(), 510);
        x.fell(0, 0, true);
        Check.due("all nine", x.fewest(), 511);
        x.right(128);
        Check.due("all but 7", x.fewest(), 383);
        TurnedPosts last = Check.landOf(Made.CHAIN + "goes 8 7 1;");
        last.fell(8, 0, true);
        Check.due("the last alone", last.fewest(), 256);
    }

    private static void fewestAheadOfLeast() {
        Check.sentence(0, "FEWEST POSTS to be SET RIGHT");
        // 3 alone, by its own road; or 0 and 1 (a lower number), the other way round
        TurnedPosts x = Check.landOf("places 4;road 3 2 1;road 3 0 9;road 0 1 1;road 1 2 1;goes 3 2 1;");
        x.turn(3, 1);
        x.turn(0, 1);
        x.turn(1, 1);
        Check.due("3 alone", x.fewest(), 8);
        Check.due("0 and 1 would do it too", x.right(3), 2);
        Check.due("they do", x.walk(3, 2, 0), 1);
    }

    private static void leastOfLikeSets() {
        Check.sentence(0, "the SET; of like ones the least");
        TurnedPosts x = Check.landOf("places 4;road 3 1 1;road 1 0 1;road 3 2 2;road 2 0 2;goes 3 0 1;");
        x.turn(3, 1);
        x.turn(2, 1);
        Check.due("2 or 3", x.fewest(), 4);
        TurnedPosts pair = Check.landOf("places 6;road 0 2 1;road 2 3 1;road 0 1 2;road 1 3 2;road 4 5 1;goes 0 3 1;goes 5 4 1;");
        pair.turn(0, 1);
        pair.turn(1, 1);
        pair.fell(5, 0, true);
        Check.due("0 and 5, or 1 and 5", pair.fewest(), 33);
    }

    private static void fewestOfThoseReached() {
        Check.sentence(0, "so that all TRAVELS that can be reached COME");
        TurnedPosts x = Check.landOf("places 4;road 0 1 1;road 1 2 1;goes 0 3 99;goes 3 0 99;");
        Check.due("none can be reached", x.fewest(), 0);
        x.turn(1, 1);
        x.fell(0, 0, true);
        Check.due("none can, posts turned", x.fewest(), 0);
        TurnedPosts y = Check.landOf("places 4;road 0 1 1;road 1 2 1;goes 0 3 99;goes 0 2 1;");
        y.turn(1, 1);
        Check.due("one can", y.fewest(), 2);
    }

    private static void bestPlace() {
        Check.sentence(23, "BEST POST: what = 0 the PLACE");
        TurnedPosts x = Check.landOf(Made.CHAIN + "goes 8 0 2;goes 0 8 1;");
        x.fell(8, 0, true);
        x.fell(0, 0, true);
        Check.due("the last place", x.best(0), 8);
        x.right(256);
        Check.due("the first place", x.best(0), 0);
        Check.due("one place", Check.landOf("places 1;").best(0), 0);
        Check.sentence(23, "1 COST by it");
        x.fell(8, 0, true);
        Check.due("cost now", x.told(6), 3000);
        Check.due("cost by the last place", x.best(1), 1000);
        Check.due("cost by one place", Check.landOf("places 1;").best(1), 0);
        Check.due("cost of what cannot be reached", Check.landOf("places 2;goes 0 1 99;").best(1), 99000);
        Check.due("nothing is set right by asking", x.told(6), 3000);
    }

    private static void bestWithoutPlaces() {
        Check.sentence(23, "(NONE without PLACES)");
        Check.due("best(0)", Made.empty().best(0), Check.NONE);
        Check.due("best(1)", Made.empty().best(1), Check.NONE);
        TurnedPosts x = Check.landOf("places 1;");
        Check.due("with one", x.best(0), 0);
        x.land();
        Check.due("without again", x.best(0), Check.NONE);
    }

    private static void bestOfLikeOnes() {
        Check.sentence(0, "COST becomes least; of like ones the least");
        TurnedPosts x = Check.landOf(Made.CHAIN + "goes 7 8 1;goes 2 1 1;");
        Check.due("all right", x.best(0), 0);
        x.fell(7, 1, true);
        x.fell(2, 0, true);
        Check.due("2 or 7", x.best(0), 2);
        Check.due("cost by either", x.best(1), 1000);
        x.fell(3, 0, true);
        Check.due("3 helps nobody", x.best(0), 2);
    }

    private static void bestAlone() {
        Check.sentence(0, "BEST POST: that by which, SET RIGHT alone, COST becomes least");
        // all four are turned and all come; each alone set right leads somebody round and round
        TurnedPosts x = Check.landOf("places 4;road 0 2 1;road 0 3 1;road 1 2 1;road 1 3 3;goes 0 1 1;goes 0 3 1;");
        for (int p = 0; p < 4; p++) {
            x.turn(p, 1);
        }
        Check.due("cost now", x.told(6), 6);
        Check.due("the best, though it is worse", x.best(0), 0);
        Check.due("its cost", x.best(1), 1000);
        TurnedPosts two = Check.landOf("places 3;road 0 1 1;road 1 2 1;goes 0 2 7;");
        two.fell(0, 0, true);
        two.turn(1, 1);
        Check.due("neither of two helps alone", two.best(1), 7000);
        Check.due("so the first", two.best(0), 0);
    }

    private static void bestRefused() {
        Check.sentence(23, "OUTSIDE");
        for (int what : new int[] {-1, 2, Integer.MIN_VALUE, Integer.MAX_VALUE}) {
            Made.refused("best(" + what + ")", Check.OUTSIDE, Made::rich, x -> x.best(what));
            Made.refused("best(" + what + ") without places", Check.OUTSIDE, Made::empty, x -> x.best(what));
        }
    }

    private static void oddsOfNoneAndAll() {
        Check.sentence(24, "ODDS (o 0 .. 100)");
        TurnedPosts x = Check.landOf("places 3;road 0 1 1;road 1 2 1;");
        int[] odds = {0, 1, 50, 99, 100};
        for (int o : odds) {
            Check.due("as it should be, " + o, x.odds(0, 2, o), (100 - o) * 10000000);
        }
        x.turn(1, 1);
        for (int o : odds) {
            Check.due("turned, " + o, x.odds(0, 2, o), o * 10000000);
        }
        Check.due("nothing is turned by asking", x.post(1, 1), 1);
        Check.due("nor drawn", x.seed(0), 0);
        Check.sentence(0, "going on from a (all of a BILLION there)");
        for (int o : odds) {
            Check.due("already there, " + o, x.odds(1, 1, o), BILLION);
            Check.due("already there, one side, " + o, x.odds(0, 0, o), BILLION);
            Check.due("already there, no sides, " + o, Check.landOf("places 1;").odds(0, 0, o), BILLION);
        }
    }

    private static void oddsOfOneSide() {
        Check.sentence(0, "by each other turn alike (SIDES less 1; a POST with one SIDE never)");
        TurnedPosts x = Check.landOf(Made.STAR);
        for (int o : new int[] {0, 1, 99, 100}) {
            Check.due("from one side, " + o, x.odds(5, 0, o), BILLION);
        }
        Check.due("five sides: four other turns", x.odds(0, 3, 100), 0);
        x.turn(0, 1);
        Check.due("one of four", x.odds(0, 3, 100), 250000000);
        Check.due("one of four, from beyond", x.odds(1, 3, 100), 250000000);
        TurnedPosts three = Check.landOf("places 4;road 0 1 1;road 0 2 1;road 0 3 1;");
        three.turn(0, 2);
        Check.due("one of two", three.odds(0, 1, 100), 500000000);
    }

    private static void oddsAsItIs() {
        Check.sentence(0, "for the one as it is (100 less o) / 100 (cut)");
        TurnedPosts x = Check.landOf(FAN);
        // 3333334 come to 4, 3300000 and two thirds would stay: 3300000
        Check.due("what stays is cut", x.odds(0, 1, 1), 990000000 + 3300000);
        TurnedPosts back = Check.landOf("places 5;road 0 1 1;road 0 2 1;road 0 3 1;road 0 4 1;road 4 1 9;");
        // at 4 what stays goes back to 0; the other turn has all that was cut off
        Check.due("what is cut off goes on", back.odds(0, 1, 1), 990000000 + 33334);
    }

    private static void oddsCut() {
        Check.sentence(0, "for each other, in rising order, what is left / how many of these are left (cut)");
        TurnedPosts x = Check.landOf(FAN);
        // 10000000 are left for three turns: 3333333, 3333333, 3333334; the last leads to 4, which stays by 99 of 100
        Check.due("the last has what is left", x.odds(0, 1, 1), 990000000 + 3300000);
        x.turn(0, 3);
        Check.due("turn 0 is the first of them", x.odds(0, 1, 1), 980100000 + 3333333);
        TurnedPosts three = Check.landOf("places 4;road 0 1 1;road 0 2 1;road 0 3 1;road 3 1 1;");
        Check.due("halves", three.odds(0, 1, 50), 500000000 + 125000000);
        // of ten at the fifth turned post nine stay and one goes on; of one none stays: it goes on to the end
        TurnedPosts row = Check.landOf(Made.CHAIN);
        int[] comes = {10000000, 100000, 1000, 10, 1, 1, 1};
        for (int p = 1; p < 8; p++) {
            row.turn(p, 1);
            Check.due("posts turned up to " + p, row.odds(0, 8, 1), throughPostsThatStay(comes[p - 1], 7 - p));
        }
    }

    /** What is left of a share behind posts as they should be, by ninety-nine of a hundred each. */
    private static long throughPostsThatStay(long share, int posts) {
        long left = share;
        for (int k = 0; k < posts; k++) {
            left = left * 99 / 100;
        }
        return left;
    }

    private static void oddsInRisingOrder() {
        Check.sentence(0, "for each other, in rising order");
        TurnedPosts x = Check.landOf(FAN);
        x.turn(0, 1);
        // 20000000 are left for the turns 0, 2, 3: 6666666, 6666667, 6666667; the last stays by 98 of 100
        Check.due("by the number of the turn", x.odds(0, 1, 2), 6666666 + 6533333);
        x.turn(0, 1);
        // now for 0, 1, 3
        Check.due("the one as it is left out", x.odds(0, 1, 2), 6666666 + 6533333);
    }

    private static void oddsOfThoseWhoDoNotCome() {
        Check.sentence(0, "ODDS to COME from a to t: of a BILLION");
        TurnedPosts x = Check.landOf("places 4;road 0 1 1;road 1 2 1;");
        Check.due("cannot be reached", x.odds(0, 3, 50), 0);
        Check.due("cannot be reached from there", x.odds(3, 0, 50), 0);
        x.fell(1, 1, true);
        Check.due("lost by an arm that fell", x.odds(0, 2, 50), 0);
        Check.due("come before it", x.odds(0, 1, 50), BILLION);
        x.fell(0, 0, true);
        Check.due("lost at once, by an arm of the first place", x.odds(0, 1, 50), 0);
        x.right(15);
        x.paint(1, 2, 999);
        Check.due("paint is no matter", x.odds(0, 2, 0), BILLION);
        // there are as many turns as can be: nine places, each share goes on till it comes or is round
        TurnedPosts full = Check.landOf(Made.FULL_LAND);
        int odds = full.odds(8, 4, 50);
        Check.holds("between none and all: " + odds, odds > 0 && odds < BILLION);
        Check.due("as it is", full.odds(8, 4, 0), BILLION);
    }

    private static void oddsRefused() {
        Check.sentence(24, "UNKNOWN, OUTSIDE");
        for (int p : NO_PLACES) {
            Made.refused("odds(" + p + ", 0, 0)", Check.UNKNOWN, Made::rich, x -> x.odds(p, 0, 0));
            Made.refused("odds(0, " + p + ", 100)", Check.UNKNOWN, Made::rich, x -> x.odds(0, p, 100));
            Made.refused("odds(" + p + ", " + p + ", 101)", Check.UNKNOWN, Made::rich, x -> x.odds(p, p, 101));
        }
        for (int o : new int[] {-1, 101, Integer.MIN_VALUE, Integer.MAX_VALUE}) {
            Made.refused("odds(0, 4, " + o + ")", Check.OUTSIDE, Made::rich, x -> x.odds(0, 4, o));
            Made.refused("odds(0, 0, " + o + ")", Check.OUTSIDE, Made::rich, x -> x.odds(0, 0, o));
        }
    }

    private static void neededArms() {
        Check.sentence(25, "p = NONE how many ARMS, else those of a PLACE (a SET of ARMS)");
        Check.due("of a new object", Made.empty().needed(-1), 0);
        Check.due("no travels", Check.landOf(Made.CHAIN).needed(-1), 0);
        TurnedPosts x = Check.landOf(Made.CHAIN + "goes 0 8 1;goes 8 0 1;");
        Check.due("every arm there is", x.needed(-1), 16);
        for (int p = 0; p < 9; p++) {
            Check.due("needed(" + p + ")", x.needed(p), p == 0 || p == 8 ? 1 : 3);
        }
        TurnedPosts star = Check.landOf(Made.STAR + "goes 0 5 1;goes 0 4 1;goes 3 5 1;");
        Check.due("the last arms of five", star.needed(0), 24);
        Check.due("one arm for two travels counts once", star.needed(-1), 3);
        Check.due("place 6, no arms", star.needed(6), 0);
        star.turn(0, 1);
        star.right(0);
        Check.due("they do not come now", star.needed(0), 0);
    }

    private static void neededOfThoseWhoCome() {
        Check.sentence(0, "ARMS (PLACE and SIDE) by which some TRAVEL goes that COMES, as all stand now");
        TurnedPosts x = Check.landOf("places 4;road 0 1 1;road 0 2 5;road 2 1 5;goes 0 1 1;goes 0 3 1;");
        Check.due("one arm", x.needed(-1), 1);
        Check.due("the first of 0", x.needed(0), 1);
        x.turn(0, 1);
        Check.due("round by 2: two arms", x.needed(-1), 2);
        Check.due("the same arm of 0, though it stands at side 1", x.needed(0), 1);
        Check.due("the second of 2", x.needed(2), 2);
        x.turn(2, 1);
        Check.due("round and round: none", x.needed(-1), 0);
        Check.due("none of 0", x.needed(0), 0);
        x.right(15);
        x.fell(0, 0, true);
        Check.due("lost: none", x.needed(-1), 0);
        x.fell(0, 0, false);
        Check.due("up again", x.needed(0), 1);
    }

    private static void neededRefused() {
        Check.sentence(25, "UNKNOWN");
        for (int p : new int[] {-2, 5, Integer.MIN_VALUE, Integer.MAX_VALUE}) {
            Made.refused("needed(" + p + ")", Check.UNKNOWN, Made::rich, x -> x.needed(p));
        }
        Check.due("place 4 of five", Made.rich().needed(4), 0);
        Check.due("place 0 of none", Made.empty().needed(0), Check.UNKNOWN);
        Check.due("place 8 of nine", Check.landOf("places 9;").needed(8), 0);
        Check.due("place 9 of nine", Check.landOf("places 9;").needed(9), Check.UNKNOWN);
    }
}
