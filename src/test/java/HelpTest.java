/** Promises 22 to 25: fewest, best, odds, needed. */
public final class HelpTest {
    private static final String STAR = "places 6;road 0 1 1;road 0 2 1;road 0 3 1;road 0 4 1;road 0 5 1;";

    public static void main(String[] args) {
        fewest();
        fewestOfLikeOnes();
        best();
        bestWithoutPlaces();
        odds();
        oddsInRisingOrder();
        oddsOfEdges();
        needed();
        neededOfTurned();
        Check.end("HelpTest");
    }

    private static void fewest() {
        Check.due("fewest() without places", new TurnedPosts().fewest(), 0);
        TurnedPosts x = Check.landOf(Check.FIVE);
        Check.due("all right", x.fewest(), 0);
        x.turn(0, 1);
        Check.due("a turn by which all come", x.fewest(), 0);
        x.turn(3, 1);
        x.turn(2, 1);
        x.turn(1, 2);
        Check.due("three of four", x.fewest(), 14);
        Check.due("nothing was set right by that", x.told(7), 15);
        x.right(31);
        x.paint(0, 4, 1);
        Check.due("paint needs none", x.fewest(), 0);
        x.fell(3, 2, true);
        Check.due("a fallen arm", x.fewest(), 8);
        TurnedPosts apart = Check.landOf("places 3;road 0 1 1;goes 0 2 9;");
        Check.due("what cannot be reached is no matter", apart.fewest(), 0);
        apart.turn(0, 1);
        apart.fell(0, 0, true);
        Check.due("though a post leads astray", apart.fewest(), 0);
        TurnedPosts idle = Check.landOf("places 3;road 0 1 1;road 1 2 1;");
        idle.turn(1, 1);
        Check.due("nobody goes", idle.fewest(), 0);
        TurnedPosts all = Check.landOf("places 9;road 0 1 1;road 1 2 1;road 2 3 1;road 3 4 1;road 4 5 1;road 5 6 1;"
                + "road 6 7 1;road 7 8 1;goes 0 8 1;goes 8 0 1;");
        for (int p = 0; p < 9; p++) {
            all.turn(p, 1);
        }
        all.fell(0, 0, true);
        all.fell(8, 0, true);
        Check.due("all nine", all.fewest(), 511);
    }

    /** Either of two posts would do: 0 by the other way round, 1 by the true one. */
    private static void fewestOfLikeOnes() {
        TurnedPosts x = Check.landOf("places 4;road 0 1 1;road 1 3 1;road 0 2 2;road 2 3 2;goes 0 3 1;");
        x.turn(0, 1);
        x.turn(2, 1);
        Check.due("0 or 2", x.fewest(), 1);
        // the least number among sets of one size, though a larger set has a lower number than none of them
        TurnedPosts y = Check.landOf("places 4;road 3 1 1;road 1 0 1;road 3 2 2;road 2 0 2;goes 3 0 1;");
        y.turn(3, 1);
        y.turn(2, 1);
        Check.due("2 or 3", y.fewest(), 4);
        TurnedPosts z = Check.landOf("places 4;road 3 2 1;road 2 0 1;road 3 1 2;road 1 0 2;goes 3 0 1;goes 1 0 1;");
        z.turn(3, 1);
        z.fell(1, 1, true);
        z.fell(1, 0, true);
        Check.due("1 alone", z.fewest(), 2);
    }

    private static void best() {
        TurnedPosts x = Check.landOf(Check.FIVE);
        Check.due("all right", x.best(0), 0);
        Check.due("cost of that", x.best(1), 0);
        x.fell(3, 2, true);
        x.turn(1, 1);
        Check.due("cost now", x.told(6), 16000);
        Check.due("best(0)", x.best(0), 3);
        Check.due("best(1)", x.best(1), 6040);
        Check.due("nothing was set right by that", x.told(6), 16000);
        Check.due("best(2)", x.best(2), Check.OUTSIDE);
        Check.due("best(-1)", x.best(-1), Check.OUTSIDE);
        TurnedPosts two = Check.landOf("places 3;road 0 1 1;road 1 2 1;goes 0 2 5;goes 2 0 5;");
        two.fell(2, 0, true);
        two.fell(0, 0, true);
        Check.due("of like ones the least", two.best(0), 0);
        Check.due("of like ones the cost", two.best(1), 5000);
        TurnedPosts none = Check.landOf("places 3;road 1 2 1;goes 1 2 5;goes 0 2 5;");
        none.turn(2, 1);
        Check.due("none helps", none.best(0), 0);
        Check.due("cost all the same", none.best(1), 5000);
    }

    private static void bestWithoutPlaces() {
        TurnedPosts x = new TurnedPosts();
        Check.due("best(0) without places", x.best(0), Check.NONE);
        Check.due("best(1) without places", x.best(1), Check.NONE);
        Check.due("best(2) without places", x.best(2), Check.OUTSIDE);
        TurnedPosts idle = Check.landOf("places 1;");
        Check.due("best(0) of a place without travels", idle.best(0), 0);
        Check.due("best(1) of a place without travels", idle.best(1), 0);
        idle.land();
        Check.due("best(0), the land empty again", idle.best(0), Check.NONE);
        Check.due("best(1), the land empty again", idle.best(1), Check.NONE);
    }

    private static void odds() {
        TurnedPosts x = Check.landOf("places 3;road 0 1 1;road 1 2 1;");
        Check.due("one post of two sides", x.odds(0, 2, 30), 700000000);
        x.turn(1, 1);
        Check.due("as it is, it is turned", x.odds(0, 2, 30), 300000000);
        Check.due("o = 0", x.odds(0, 2, 0), 0);
        Check.due("o = 100", x.odds(0, 2, 100), 1000000000);
        Check.due("nothing was turned by that", x.told(7), 2);
        x.fell(1, 1, true);
        Check.due("a fallen arm", x.odds(0, 2, 100), 0);
        x.fell(0, 0, true);
        Check.due("a fallen arm at 0", x.odds(0, 1, 50), 0);
        TurnedPosts ring = Check.landOf("places 3;road 0 1 1;road 1 2 1;road 2 0 1;");
        // 0 to 2: by its own road 60; else by 1, whose post stays 60 of 40
        Check.due("both ways round", ring.odds(0, 2, 40), 840000000);
    }

    /** What does not part evenly is larger for the later turns, by the number of the turn. */
    private static void oddsInRisingOrder() {
        TurnedPosts x = Check.landOf(STAR);
        Check.due("five sides, as they should be", x.odds(0, 3, 7), 930000000);
        x.turn(0, 2);
        Check.due("a fourth of what is left", x.odds(0, 3, 1), 2500000);
        TurnedPosts y = Check.landOf("places 4;road 0 1 1;road 0 2 1;road 0 3 1;road 1 2 9;road 2 3 9;road 3 1 9;");
        Check.due("by two posts more", y.odds(0, 1, 33), oddsByHand());
        TurnedPosts z = Check.landOf("places 5;road 4 0 1;road 0 1 1;road 0 2 1;road 0 3 1;");
        Check.due("as it is", z.odds(4, 1, 1), 990000000);
        // 10000000 are left for three turns; only turn 0 comes, the first of them however the post is turned
        for (int turn = 1; turn <= 3; turn++) {
            z.turn(0, 1);
            Check.due("the first part, turned by " + turn, z.odds(4, 1, 1), 3333333);
        }
        TurnedPosts w = Check.landOf("places 5;road 4 0 1;road 0 1 1;road 0 2 1;road 0 3 1;road 2 1 9;road 3 1 9;");
        // turn 1 leads to 2, turn 2 to 3; from 2 and 3 the true arm leads back to 0, the other turn to 1
        long byTurn0 = 990000000;
        long byTurn1 = 3333333;
        long byTurn2 = 3333333;
        Check.due("first and second part go on", w.odds(4, 1, 1),
                byTurn0 + (byTurn1 - byTurn1 * 99 / 100) + (byTurn2 - byTurn2 * 99 / 100));
        w.turn(0, 1);
        // now turn 0 is the first, turn 2 the second, turn 3 (back to 4) the last part
        Check.due("what is as it is goes on by 2", w.odds(4, 1, 1),
                3333333 + (990000000L - 990000000L * 99 / 100) + (3333333 - 3333333L * 99 / 100));
        w.turn(0, 1);
        // what stays goes to 3; turn 0 first, turn 1 second
        Check.due("what is as it is goes on by 3", w.odds(4, 1, 1),
                3333333 + (3333333 - 3333333L * 99 / 100) + (990000000L - 990000000L * 99 / 100));
    }

    private static long oddsByHand() {
        long stay = 1000000000L * 67 / 100;
        long left = 1000000000L - stay;
        long byTurn1 = left / 2;
        long byTurn2 = left - byTurn1;
        // turn 1 of post 0: arm 0 (tells 1) stands at side 1, towards 2; turn 2: towards 3
        return stay + fromTwo(byTurn1) + fromThree(byTurn2);
    }

    /** Post 2: sides to 0, 1, 3; arm 0 tells 1 (two miles by 0). Turn 1 leads to 1, turn 2 to 3. */
    private static long fromTwo(long share) {
        long stay = share * 67 / 100;
        long left = share - stay;
        long byTurn1 = left / 2;
        long on = left - byTurn1;
        // post 3: sides to 0, 2, 1; arm 0 tells 1: turn 2 leads to 1, turn 1 to 2 again
        long onStay = on * 67 / 100;
        long onLeft = on - onStay;
        return byTurn1 + (onLeft - onLeft / 2);
    }

    /** Post 3: sides to 0, 2, 1; arm 0 tells 1. Turn 1 leads to 2, turn 2 to 1. */
    private static long fromThree(long share) {
        long stay = share * 67 / 100;
        long left = share - stay;
        long on = left / 2;
        long onStay = on * 67 / 100;
        long onLeft = on - onStay;
        return left - on + onLeft / 2;
    }

    private static void oddsOfEdges() {
        TurnedPosts x = Check.landOf("places 4;road 0 1 1;road 1 2 1;");
        Check.due("already there", x.odds(1, 1, 50), 1000000000);
        Check.due("already there, without sides", x.odds(3, 3, 50), 1000000000);
        Check.due("cannot be reached", x.odds(0, 3, 50), 0);
        Check.due("one side", x.odds(0, 1, 100), 1000000000);
        Check.due("odds(4, 0, 0)", x.odds(4, 0, 0), Check.UNKNOWN);
        Check.due("odds(0, 4, 0)", x.odds(0, 4, 0), Check.UNKNOWN);
        Check.due("odds(-1, 0, 101)", x.odds(-1, 0, 101), Check.UNKNOWN);
        Check.due("odds(0, 0, 101)", x.odds(0, 0, 101), Check.OUTSIDE);
        Check.due("odds(0, 0, -1)", x.odds(0, 0, -1), Check.OUTSIDE);
    }

    private static void needed() {
        Check.due("needed(NONE) without places", new TurnedPosts().needed(-1), 0);
        TurnedPosts x = Check.landOf(Check.FIVE);
        Check.due("how many", x.needed(-1), 8);
        int[] sets = {1, 3, 3, 5, 1};
        for (int p = 0; p < 5; p++) {
            Check.due("needed(" + p + ")", x.needed(p), sets[p]);
        }
        Check.due("needed(5)", x.needed(5), Check.UNKNOWN);
        Check.due("needed(-2)", x.needed(-2), Check.UNKNOWN);
        x.fell(0, 0, true);
        Check.due("not by what was needed before", x.needed(0), 0);
        Check.due("those of 4 still", x.needed(4), 1);
        TurnedPosts idle = Check.landOf("places 3;road 0 1 1;goes 0 2 5;");
        Check.due("nobody comes", idle.needed(-1), 0);
    }

    /** A turned post's arm counts by its own number, wherever it stands. */
    private static void neededOfTurned() {
        TurnedPosts x = Check.landOf(Check.FIVE);
        x.turn(1, 1);
        // 0 to 4 comes by 1 and 3: post 1's arm 1 stands at side 2
        Check.due("how many", x.needed(-1), 3);
        Check.due("of 0", x.needed(0), 1);
        Check.due("of 1", x.needed(1), 2);
        Check.due("of 2", x.needed(2), 0);
        Check.due("of 3", x.needed(3), 4);
        Check.due("of 4", x.needed(4), 0);
    }
}
