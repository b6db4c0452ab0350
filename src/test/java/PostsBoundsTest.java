/** Promises 8 to 14 (post, arm, miles, turn, fell, paint, right), sentence by sentence, at the bounds. */
public final class PostsBoundsTest {
    private static final int[] NO_PLACES = {-1, 5, Integer.MIN_VALUE, Integer.MAX_VALUE};
    private static final int[] NO_WHATS = {-1, 3, Integer.MIN_VALUE, Integer.MAX_VALUE};

    public static void main(String[] args) {
        sidesByRisingNumbers();
        trueArms();
        partsOfAPost();
        postRefused();
        placesOfAnArm();
        whereAnArmStands();
        armRefused();
        milesOfAnArm();
        milesNone();
        milesRefused();
        turnedByMore();
        turnWrapsRound();
        turnRefused();
        fallenOrUp();
        fellRefused();
        paintedMiles();
        paintRefused();
        paintNot();
        setRight();
        setRightNoOther();
        howManyWereNot();
        rightRefused();
        Check.end("PostsBoundsTest");
    }

    private static void sidesByRisingNumbers() {
        Check.sentence(0, "SIDE i is towards the i-th ROAD there (by rising numbers)");
        TurnedPosts x = Check.landOf("places 5;road 3 2 1;road 2 1 1;road 1 0 1;road 4 2 1;road 0 2 1;");
        int[] roadsOfTwo = {0, 1, 3, 4};
        Check.due("sides of 2", x.post(2, 0), 4);
        for (int i = 0; i < 4; i++) {
            Check.due("side " + i + " of 2", x.arm(2, i, 2), roadsOfTwo[i]);
        }
        Check.due("side 0 of 0", x.arm(0, 0, 2), 2);
        Check.due("side 1 of 0", x.arm(0, 1, 2), 4);
    }

    private static void trueArms() {
        Check.sentence(0, "that of the ROAD by which t is reached in FAR miles (of like ones the least ROAD); none, if t cannot be reached");
        String ways = "places 5;road 0 1 2;road 0 2 2;road 1 3 2;road 2 3 ";
        Check.due("like ways: the least road", Check.landOf(ways + "2;").arm(0, 0, 0), 10);
        Check.due("like ways: the other tells its end alone", Check.landOf(ways + "2;").arm(0, 1, 0), 4);
        Check.due("a mile less by the other", Check.landOf(ways + "1;").arm(0, 0, 0), 2);
        Check.due("a mile less by the other: it tells both", Check.landOf(ways + "1;").arm(0, 1, 0), 12);
        Check.due("a mile more by the other", Check.landOf(ways + "3;").arm(0, 0, 0), 10);
        TurnedPosts x = Check.landOf(ways + "2;");
        Check.due("itself is told by none", (x.arm(0, 0, 0) | x.arm(0, 1, 0)) & 1, 0);
        Check.due("4 is told by none", (x.arm(0, 0, 0) | x.arm(0, 1, 0)) & 16, 0);
        Check.due("like ways back: the least road", x.arm(3, 0, 0), 3);
        straightOrRound();
    }

    /** The straight road from 0 to 2 against four miles over 1: it is true by its miles, not by being straight. */
    private static void straightOrRound() {
        for (int miles = 3; miles <= 5; miles++) {
            TurnedPosts first = Check.landOf("places 3;road 0 2 " + miles + ";road 0 1 2;road 1 2 2;");
            Check.due("the straight road first, of " + miles, first.arm(0, 0, 0), miles <= 4 ? 4 : 0);
            Check.due("the way round behind it, " + miles, first.arm(0, 1, 0), miles <= 4 ? 2 : 6);
            TurnedPosts last = Check.landOf("places 3;road 0 1 2;road 1 2 2;road 0 2 " + miles + ";");
            Check.due("the way round first, " + miles, last.arm(0, 0, 0), miles <= 3 ? 2 : 6);
            Check.due("the straight road behind it, of " + miles, last.arm(0, 1, 0), miles <= 3 ? 4 : 0);
        }
    }

    private static void partsOfAPost() {
        Check.sentence(8, "what = 0 SIDES, 1 by how many it is TURNED, 2 ARMS that have FALLEN (a SET of ARMS)");
        TurnedPosts x = Check.landOf(Made.STAR);
        Check.due("five sides", x.post(0, 0), 5);
        Check.due("one side", x.post(5, 0), 1);
        Check.due("no sides", x.post(6, 0), 0);
        for (int p = 0; p < 7; p++) {
            Check.due("turn of " + p + " at first", x.post(p, 1), 0);
            Check.due("fallen of " + p + " at first", x.post(p, 2), 0);
        }
        x.turn(0, 4);
        Check.due("turned as far as may be", x.post(0, 1), 4);
        for (int i = 0; i < 5; i++) {
            x.fell(0, i, true);
            Check.due("fallen up to arm " + i, x.post(0, 2), (2 << i) - 1);
        }
        x.fell(5, 0, true);
        Check.due("fallen of one side", x.post(5, 2), 1);
        Check.due("its neighbour's", x.post(4, 2), 0);
        Check.due("turned by so much still", x.post(0, 1), 4);
    }

    private static void postRefused() {
        Check.sentence(8, "UNKNOWN, OUTSIDE");
        for (int p : NO_PLACES) {
            Made.refused("post(" + p + ", 0)", Check.UNKNOWN, Made::rich, x -> x.post(p, 0));
            Made.refused("post(" + p + ", 3)", Check.UNKNOWN, Made::rich, x -> x.post(p, 3));
        }
        for (int what : NO_WHATS) {
            Made.refused("post(4, " + what + ")", Check.OUTSIDE, Made::rich, x -> x.post(4, what));
        }
        Check.due("place 8 of nine", Check.landOf("places 9;").post(8, 0), 0);
        Check.due("place 9 of nine", Check.landOf("places 9;").post(9, 0), Check.UNKNOWN);
    }

    private static void placesOfAnArm() {
        Check.sentence(9, "what = 0 which PLACES it tells (though it has FALLEN)");
        TurnedPosts x = Check.landOf(Made.CHAIN);
        Check.due("all but itself", x.arm(0, 0, 0), 510);
        Check.due("those below", x.arm(4, 0, 0), 15);
        Check.due("those above", x.arm(4, 1, 0), 480);
        x.fell(0, 0, true);
        x.fell(4, 1, true);
        x.turn(4, 1);
        Check.due("all but itself, fallen", x.arm(0, 0, 0), 510);
        Check.due("those above, fallen and turned", x.arm(4, 1, 0), 480);
        Check.due("none", Check.landOf("places 3;road 0 1 1;road 1 2 1;road 0 2 9;").arm(0, 1, 0), 0);
    }

    private static void whereAnArmStands() {
        Check.sentence(9, "1 at which ROAD it stands, 2 at which it should");
        TurnedPosts last = Check.landOf("places 3;road 0 1 1;road 0 2 1;road 1 2 1;");
        last.turn(2, 1);
        Check.due("arm 0 of 2 stands", last.arm(2, 0, 1), 2);
        Check.due("arm 0 of 2 should", last.arm(2, 0, 2), 1);
        Check.due("arm 1 of 2 stands", last.arm(2, 1, 1), 1);
        Check.due("arm 1 of 2 should", last.arm(2, 1, 2), 2);
        Check.sentence(0, "ARM i stands at SIDE i and k, left over by SIDES");
        TurnedPosts x = Check.landOf(Made.STAR);
        for (int turn = 0; turn < 5; turn++) {
            for (int i = 0; i < 5; i++) {
                Check.due("arm " + i + " turned by " + turn, x.arm(0, i, 1), (i + turn) % 5);
                Check.due("arm " + i + " should", x.arm(0, i, 2), i);
            }
            x.turn(0, 1);
        }
        Check.due("one side: it stands where it should", x.arm(3, 0, 1), 2);
    }

    private static void armRefused() {
        Check.sentence(9, "UNKNOWN, OUTSIDE (i, what)");
        for (int p : NO_PLACES) {
            Made.refused("arm(" + p + ", 0, 0)", Check.UNKNOWN, Made::rich, x -> x.arm(p, 0, 0));
            Made.refused("arm(" + p + ", -1, 3)", Check.UNKNOWN, Made::rich, x -> x.arm(p, -1, 3));
        }
        for (int what : NO_WHATS) {
            Made.refused("arm(4, 1, " + what + ")", Check.OUTSIDE, Made::rich, x -> x.arm(4, 1, what));
        }
        TurnedPosts x = Check.landOf(Made.STAR);
        for (int i : new int[] {-1, 5, Integer.MIN_VALUE, Integer.MAX_VALUE}) {
            Check.due("arm(0, " + i + ", 0)", x.arm(0, i, 0), Check.OUTSIDE);
        }
        Check.due("the last of five", x.arm(0, 4, 0), 32);
        Check.due("the only one", x.arm(1, 0, 0), 61);
        Check.due("beyond the only one", x.arm(1, 1, 0), Check.OUTSIDE);
        Check.due("no sides", x.arm(6, 0, 0), Check.OUTSIDE);
    }

    private static void milesOfAnArm() {
        Check.sentence(10, "The miles that the ARM of p tells for t");
        TurnedPosts x = Check.landOf(Made.CHAIN);
        Check.due("the farthest", x.miles(0, 8), 792);
        Check.due("the nearest", x.miles(8, 7), 99);
        x.paint(0, 8, 0);
        Check.due("painted 0", x.miles(0, 8), 0);
        x.paint(0, 8, 999);
        Check.due("painted 999", x.miles(0, 8), 999);
        x.turn(4, 1);
        Check.due("turned, it tells the same", x.miles(4, 8), 396);
        Check.sentence(0, "ARM i tells those PLACES whose TRUE ARM it is, with FAR miles each (at first)");
        TurnedPosts full = Check.landOf(Made.FULL_LAND);
        for (int p = 0; p < 9; p++) {
            for (int t = 0; t < 9; t++) {
                Check.due("miles(" + p + ", " + t + ")", full.miles(p, t), p == t ? Check.NONE : full.far(p, t));
            }
        }
    }

    private static void milesNone() {
        Check.sentence(10, "NONE: no ARM does");
        TurnedPosts x = Check.landOf("places 4;road 0 1 1;road 1 2 1;");
        Check.due("for itself", x.miles(1, 1), Check.NONE);
        Check.due("cannot be reached", x.miles(1, 3), Check.NONE);
        Check.due("no arms", x.miles(3, 1), Check.NONE);
        Check.due("no arms, for itself", x.miles(3, 3), Check.NONE);
        Check.sentence(0, "An ARM may have FALLEN (it tells nothing then).");
        x.fell(1, 1, true);
        Check.due("fallen", x.miles(1, 2), Check.NONE);
        Check.due("the other arm tells", x.miles(1, 0), 1);
        x.fell(1, 1, false);
        Check.due("up again", x.miles(1, 2), 1);
    }

    private static void milesRefused() {
        Check.sentence(10, "UNKNOWN");
        for (int p : NO_PLACES) {
            Made.refused("miles(" + p + ", 0)", Check.UNKNOWN, Made::rich, x -> x.miles(p, 0));
            Made.refused("miles(0, " + p + ")", Check.UNKNOWN, Made::rich, x -> x.miles(0, p));
        }
    }

    private static void turnedByMore() {
        Check.sentence(11, "A POST is TURNED by k SIDES more (1 .. 99");
        Check.due("turn(0, 1)", Check.landOf(Made.STAR).turn(0, 1), 1);
        Check.due("turn(0, 99)", Check.landOf(Made.STAR).turn(0, 99), 4);
        Check.sentence(11, "by how many it is then");
        TurnedPosts x = Check.landOf(Made.STAR);
        Check.due("by 3", x.turn(0, 3), 3);
        Check.due("by 1 more", x.turn(0, 1), 4);
        Check.due("post(0, 1)", x.post(0, 1), 4);
        Check.due("no other", x.told(7), 1);
    }

    private static void turnWrapsRound() {
        Check.sentence(11, "left over by SIDES");
        TurnedPosts x = Check.landOf(Made.STAR);
        x.turn(0, 4);
        Check.due("beyond the last side", x.turn(0, 1), 0);
        Check.due("as it should be", x.told(7), 0);
        Check.due("all round", x.turn(0, 5), 0);
        Check.due("one more than all round", x.turn(0, 6), 1);
        x.turn(0, 3);
        Check.due("4 and 99", x.turn(0, 99), 3);
        Check.due("one side", x.turn(1, 1), 0);
        Check.due("one side by 99", x.turn(1, 99), 0);
        TurnedPosts two = Check.landOf("places 3;road 0 1 1;road 1 2 1;");
        Check.due("two sides by 99", two.turn(1, 99), 1);
        Check.due("two sides by 1", two.turn(1, 1), 0);
        Check.sentence(0, "A POST is TURNED by k SIDES (0 at first; 0 to SIDES less 1)");
        for (int k = 1; k <= 99; k++) {
            Check.due("three sides by " + k, Check.landOf(Check.FIVE).turn(1, k), k % 3);
        }
    }

    private static void turnRefused() {
        Check.sentence(11, "UNKNOWN, OUTSIDE, NOT: no SIDES");
        for (int p : NO_PLACES) {
            Made.refused("turn(" + p + ", 1)", Check.UNKNOWN, Made::rich, x -> x.turn(p, 1));
            Made.refused("turn(" + p + ", 0)", Check.UNKNOWN, Made::rich, x -> x.turn(p, 0));
        }
        for (int k : new int[] {0, 100, -1, Integer.MIN_VALUE, Integer.MAX_VALUE}) {
            Made.refused("turn(4, " + k + ")", Check.OUTSIDE, Made::rich, x -> x.turn(4, k));
            Made.refused("turn(2, " + k + ")", Check.OUTSIDE, Made::rich, x -> x.turn(2, k));
        }
        Made.refused("turn(2, 1)", Check.NOT, Made::rich, x -> x.turn(2, 1));
        Made.refused("turn(2, 99)", Check.NOT, Made::rich, x -> x.turn(2, 99));
    }

    private static void fallenOrUp() {
        Check.sentence(12, "ARM i has FALLEN, or is up again: what it had (1, 0)");
        TurnedPosts x = Check.landOf(Made.STAR);
        for (int i : new int[] {0, 4}) {
            Check.due("up, it was up", x.fell(0, i, false), 0);
            Check.due("it falls", x.fell(0, i, true), 0);
            Check.due("it falls again", x.fell(0, i, true), 1);
            Check.due("it is fallen", x.post(0, 2), 1 << i);
            Check.due("it is up again", x.fell(0, i, false), 1);
            Check.due("it is up", x.post(0, 2), 0);
            Check.due("up again, it was", x.fell(0, i, false), 0);
        }
        x.fell(0, 0, true);
        x.fell(0, 4, true);
        Check.due("the first is up, the last is not", x.fell(0, 0, false), 1);
        Check.due("so", x.post(0, 2), 16);
        x.paint(0, 1, 7);
        x.fell(0, 0, true);
        x.fell(0, 0, false);
        Check.due("paint stays through a fall", x.miles(0, 1), 7);
    }

    private static void fellRefused() {
        Check.sentence(12, "UNKNOWN, OUTSIDE (i)");
        for (boolean is : new boolean[] {true, false}) {
            for (int p : NO_PLACES) {
                Made.refused("fell(" + p + ", 0)", Check.UNKNOWN, Made::rich, x -> x.fell(p, 0, is));
                Made.refused("fell(" + p + ", 9)", Check.UNKNOWN, Made::rich, x -> x.fell(p, 9, is));
            }
            for (int i : new int[] {-1, 2, 32, Integer.MIN_VALUE, Integer.MAX_VALUE}) {
                Made.refused("fell(4, " + i + ")", Check.OUTSIDE, Made::rich, x -> x.fell(4, i, is));
            }
            Made.refused("fell(2, 0), no sides", Check.OUTSIDE, Made::rich, x -> x.fell(2, 0, is));
            Check.due("the last of five", Check.landOf(Made.STAR).fell(0, 4, is), 0);
            Check.due("beyond the last of five", Check.landOf(Made.STAR).fell(0, 5, is), Check.OUTSIDE);
        }
    }

    private static void paintedMiles() {
        Check.sentence(13, "What the ARM tells of t at p becomes m miles (0 .. 999): what it was");
        TurnedPosts x = Check.landOf(Made.CHAIN);
        Check.due("from truth to 0", x.paint(0, 8, 0), 792);
        Check.due("from 0 to 999", x.paint(0, 8, 999), 0);
        Check.due("from 999 to truth", x.paint(0, 8, 792), 999);
        Check.due("of the same arm, another place", x.miles(0, 7), 693);
        Check.due("at another post", x.miles(1, 8), 693);
        Check.due("of the last place", x.paint(8, 7, 1), 99);
        Check.due("walks are as before", x.walk(8, 7, 1), 99);
        Check.due("far is as before", x.far(8, 7), 99);
    }

    private static void paintRefused() {
        Check.sentence(13, "UNKNOWN, OUTSIDE");
        for (int p : NO_PLACES) {
            Made.refused("paint(" + p + ", 0, 0)", Check.UNKNOWN, Made::rich, x -> x.paint(p, 0, 0));
            Made.refused("paint(0, " + p + ", 0)", Check.UNKNOWN, Made::rich, x -> x.paint(0, p, 0));
            Made.refused("paint(" + p + ", 0, 1000)", Check.UNKNOWN, Made::rich, x -> x.paint(p, 0, 1000));
        }
        for (int m : new int[] {-1, 1000, Integer.MIN_VALUE, Integer.MAX_VALUE}) {
            Made.refused("paint(0, 1, " + m + ")", Check.OUTSIDE, Made::rich, x -> x.paint(0, 1, m));
            Made.refused("paint(0, 0, " + m + ")", Check.OUTSIDE, Made::rich, x -> x.paint(0, 0, m));
        }
    }

    private static void paintNot() {
        Check.sentence(13, "NOT: no ARM tells t");
        Made.refused("itself", Check.NOT, Made::rich, x -> x.paint(3, 3, 0));
        Made.refused("cannot be reached", Check.NOT, Made::rich, x -> x.paint(3, 2, 0));
        Made.refused("no arms", Check.NOT, Made::rich, x -> x.paint(2, 3, 999));
        Made.refused("fallen", Check.NOT, Made::rich, x -> x.paint(4, 0, 999));
        TurnedPosts x = Made.rich();
        x.fell(4, 0, false);
        Check.due("up again", x.paint(4, 0, 999), 31);
    }

    private static void setRight() {
        Check.sentence(0, "SET RIGHT: a POST is TURNED by 0, its ARMS are up, told in truth.");
        TurnedPosts x = Check.landOf(Made.STAR);
        x.turn(0, 4);
        for (int i = 0; i < 5; i++) {
            x.paint(0, i + 1, 999);
            x.fell(0, i, true);
        }
        x.right(1);
        Check.due("turned by", x.post(0, 1), 0);
        Check.due("fallen", x.post(0, 2), 0);
        for (int t = 1; t <= 5; t++) {
            Check.due("miles(0, " + t + ")", x.miles(0, t), 1);
        }
        Check.due("miles for what cannot be reached", x.miles(0, 6), Check.NONE);
    }

    private static void setRightNoOther() {
        Check.sentence(14, "a SET of POSTS");
        TurnedPosts x = Check.landOf(Made.FULL_LAND);
        for (int p = 0; p < 9; p++) {
            x.turn(p, 1);
        }
        Check.due("the empty set", x.right(0), 0);
        Check.due("all still turned", x.told(7), 511);
        Check.due("the last alone", x.right(256), 1);
        Check.due("the others still turned", x.told(7), 255);
        Check.due("the first alone", x.right(1), 1);
        Check.due("those between", x.told(7), 254);
        Check.due("all", x.right(511), 7);
        Check.due("none turned", x.told(7), 0);
    }

    private static void howManyWereNot() {
        Check.sentence(14, "how many were not as they should be");
        TurnedPosts x = Check.landOf(Check.FIVE);
        Check.due("none", x.right(31), 0);
        x.turn(1, 1);
        Check.due("turned", x.right(31), 1);
        x.fell(1, 2, true);
        Check.due("fallen, an arm that tells nobody", x.right(31), 1);
        x.paint(1, 4, 7);
        Check.due("painted by a mile", x.right(31), 1);
        x.paint(4, 0, 9);
        Check.due("painted for the first place", x.right(31), 1);
        x.paint(0, 4, 9);
        Check.due("painted for the last place", x.right(31), 1);
        x.paint(1, 4, 6);
        Check.due("painted in truth", x.right(31), 0);
        x.turn(1, 3);
        Check.due("turned all round", x.right(31), 0);
        x.fell(1, 0, true);
        x.fell(1, 0, false);
        Check.due("up again", x.right(31), 0);
        x.turn(1, 1);
        x.fell(1, 0, true);
        x.paint(1, 4, 0);
        Check.due("all three, one post", x.right(31), 1);
        x.turn(0, 1);
        x.fell(4, 0, true);
        x.paint(2, 0, 0);
        Check.due("not in the set", x.right(10), 0);
        Check.due("three posts", x.right(31), 3);
        x.paint(1, 4, 0);
        x.fell(1, 1, true);
        x.fell(1, 1, false);
        Check.due("painted on an arm that fell and is up", x.right(2), 1);
        x.paint(1, 4, 0);
        x.fell(1, 1, true);
        Check.due("painted and fallen", x.right(2), 1);
        x.fell(1, 1, false);
        Check.due("told in truth, though it had fallen", x.miles(1, 4), 6);
        Check.due("a land without roads", Check.landOf("places 9;").right(511), 0);
    }

    private static void rightRefused() {
        Check.sentence(14, "UNKNOWN");
        for (int set : new int[] {32, 33, 63, -1, Integer.MIN_VALUE, Integer.MAX_VALUE}) {
            Made.refused("right(" + set + ")", Check.UNKNOWN, Made::rich, x -> x.right(set));
        }
        Check.due("what a refused call could have set right", Made.rich().right(31), 4);
        Check.due("right(511) of nine", Check.landOf("places 9;").right(511), 0);
        Check.due("right(512) of nine", Check.landOf("places 9;").right(512), Check.UNKNOWN);
        Check.due("right(1) of one", Check.landOf("places 1;").right(1), 0);
        Check.due("right(2) of one", Check.landOf("places 1;").right(2), Check.UNKNOWN);
        Check.due("right(0) of none", Made.empty().right(0), 0);
        Check.due("right(1) of none", Made.empty().right(1), Check.UNKNOWN);
    }
}
