/** Promises 15 to 21 (walk, way, seen, forget, fits, sure, quarrel), sentence by sentence, at the bounds. */
public final class StrangersBoundsTest {
    private static final int[] NO_PLACES = {-1, 5, Integer.MIN_VALUE, Integer.MAX_VALUE};
    /** Nine in a row; from 0 to 8 there are eight roads, as many as a walk can have. */
    private static final String ROW = Made.CHAIN;

    public static void main(String[] args) {
        comes();
        lost();
        round();
        cost();
        partsOfAWalk();
        walkRefused();
        behindRoads();
        notSoMany();
        wayRefused();
        howManySeen();
        seenRefused();
        seenWithoutRoadOrArm();
        seenFallenOrNot();
        fortySeen();
        forgotten();
        fits();
        fitsOfFallenArms();
        fitsWithoutSides();
        sure();
        quarrelWithTheLand();
        quarrelOfTwo();
        quarrelOfTheFallen();
        quarrelTold();
        Check.end("StrangersBoundsTest");
    }

    private static void walks(TurnedPosts x, int a, int t, int... endMilesWhere) {
        for (int what = 0; what <= 2; what++) {
            Check.due("walk(" + a + ", " + t + ", " + what + ")", x.walk(a, t, what), endMilesWhere[what]);
        }
    }

    private static void comes() {
        Check.sentence(0, "it COMES when it is at t");
        TurnedPosts x = Check.landOf(ROW);
        walks(x, 0, 8, 1, 792, 8);
        walks(x, 8, 0, 1, 792, 0);
        walks(x, 7, 8, 1, 99, 8);
        walks(x, 3, 3, 1, 0, 3);
        TurnedPosts none = Check.landOf("places 1;");
        walks(none, 0, 0, 1, 0, 0);
        x.fell(3, 0, true);
        x.fell(3, 1, true);
        walks(x, 3, 3, 1, 0, 3);
        walks(x, 2, 3, 1, 99, 3);
        TurnedPosts away = Check.landOf("places 3;road 0 1 1;road 0 2 5;road 2 1 5;");
        away.turn(0, 1);
        walks(away, 0, 1, 1, 10, 1);
        away.turn(2, 1);
        walks(away, 0, 1, 3, 10, 0);
    }

    private static void lost() {
        Check.sentence(0, "it is LOST where no ARM tells t");
        TurnedPosts x = Check.landOf("places 4;road 0 1 1;road 1 2 2;");
        walks(x, 0, 3, 2, 0, 0);
        walks(x, 3, 0, 2, 0, 3);
        x.fell(1, 1, true);
        walks(x, 0, 2, 2, 1, 1);
        walks(x, 1, 2, 2, 0, 1);
        walks(x, 0, 1, 1, 1, 1);
        walks(x, 2, 0, 1, 3, 0);
        x.fell(0, 0, true);
        walks(x, 0, 2, 2, 0, 0);
        walks(x, 0, 1, 2, 0, 0);
    }

    private static void round() {
        Check.sentence(0, "ROUND when it is at a PLACE again (there it ends)");
        TurnedPosts x = Check.landOf(ROW);
        x.turn(1, 1);
        walks(x, 0, 8, 3, 198, 0);
        x.right(511);
        x.turn(7, 1);
        walks(x, 0, 8, 3, 792, 6);
        walks(x, 7, 8, 3, 198, 7);
        walks(x, 6, 8, 3, 198, 6);
        TurnedPosts ring = Check.landOf("places 4;road 0 1 1;road 1 2 1;road 2 0 1;road 0 3 1;");
        ring.turn(0, 1);
        // 0 to 3: the arm for 3 stands at side 0, towards 1; 1 sends back to 0
        walks(ring, 0, 3, 3, 2, 0);
        ring.turn(1, 1);
        // and now on to 2, which sends to 0
        walks(ring, 0, 3, 3, 3, 0);
        walks(ring, 1, 3, 3, 3, 1);
        Check.sentence(0, "Told are how it ends (1 COMES, 2 LOST, 3 ROUND), miles, where it is in the end.");
        walks(ring, 3, 3, 1, 0, 3);
        walks(ring, 2, 3, 3, 3, 2);
        ring.fell(2, 1, true);
        walks(ring, 1, 3, 2, 1, 2);
    }

    private static void cost() {
        Check.sentence(0, "C times how many miles more than FAR it goes, if it COMES; 1000 times C, if not (also if it cannot be reached)");
        String text = "places 4;road 0 1 1;road 0 2 5;road 2 1 5;goes 0 1 99;goes 1 0 1;";
        TurnedPosts x = Check.landOf(text);
        Check.due("all the shortest way", x.told(6), 0);
        x.turn(2, 1);
        Check.due("a turn on nobody's way", x.told(6), 0);
        x.turn(0, 1);
        Check.due("round and round", x.told(6), 99000);
        x.right(4);
        Check.due("nine miles more for 99", x.told(6), 891);
        x.right(15);
        x.fell(0, 0, true);
        Check.due("lost", x.told(6), 99000);
        x.fell(1, 0, true);
        Check.due("both lost", x.told(6), 100000);
        Check.due("cannot be reached", Check.landOf(text + "goes 3 0 7;").told(6), 7000);
        Check.due("each travel counts", Check.landOf("places 2;" + "goes 0 1 99;".repeat(20)).told(6), 1980000);
        Check.due("no travels", Check.landOf("places 2;road 0 1 1;").told(6), 0);
    }

    private static void partsOfAWalk() {
        Check.sentence(15, "what = 0 how it ends, 1 miles, 2 where it is");
        TurnedPosts x = Check.landOf("places 3;road 0 1 7;road 1 2 8;");
        walks(x, 2, 0, 1, 15, 0);
        x.fell(1, 0, true);
        walks(x, 2, 0, 2, 8, 1);
        Check.due("nothing is changed by a walk", x.told(7), 0);
    }

    private static void walkRefused() {
        Check.sentence(15, "UNKNOWN, OUTSIDE");
        for (int p : NO_PLACES) {
            Made.refused("walk(" + p + ", 0, 0)", Check.UNKNOWN, Made::rich, x -> x.walk(p, 0, 0));
            Made.refused("walk(0, " + p + ", 0)", Check.UNKNOWN, Made::rich, x -> x.walk(0, p, 0));
            Made.refused("walk(0, " + p + ", 3)", Check.UNKNOWN, Made::rich, x -> x.walk(0, p, 3));
        }
        for (int what : new int[] {-1, 3, Integer.MIN_VALUE, Integer.MAX_VALUE}) {
            Made.refused("walk(0, 4, " + what + ")", Check.OUTSIDE, Made::rich, x -> x.walk(0, 4, what));
        }
    }

    private static void behindRoads() {
        Check.sentence(16, "Where it is behind i ROADS");
        TurnedPosts x = Check.landOf(ROW);
        for (int i = 0; i <= 8; i++) {
            Check.due("way(0, 8, " + i + ")", x.way(0, 8, i), i);
            Check.due("way(8, 0, " + i + ")", x.way(8, 0, i), 8 - i);
        }
        x.turn(7, 1);
        Check.due("at the place where it ends, again", x.way(0, 8, 8), 6);
        Check.due("the place before", x.way(0, 8, 7), 7);
        Check.due("where it begins", x.way(5, 5, 0), 5);
        TurnedPosts first = Check.landOf("places 3;road 0 1 1;road 0 2 1;");
        first.turn(0, 1);
        Check.due("by the first place's post, as it stands", first.way(0, 1, 1), 2);
    }

    private static void notSoMany() {
        Check.sentence(16, "NONE: not so many");
        TurnedPosts x = Check.landOf(ROW);
        Check.due("way(0, 8, 9)", x.way(0, 8, 9), Check.NONE);
        Check.due("way(0, 8, 10)", x.way(0, 8, 10), Check.NONE);
        Check.due("way(0, 1, 1)", x.way(0, 1, 1), 1);
        Check.due("way(0, 1, 2)", x.way(0, 1, 2), Check.NONE);
        Check.due("way(5, 5, 1)", x.way(5, 5, 1), Check.NONE);
        x.fell(3, 1, true);
        Check.due("to where it is lost", x.way(0, 8, 3), 3);
        Check.due("beyond where it is lost", x.way(0, 8, 4), Check.NONE);
        x.turn(1, 1);
        Check.due("to where it is round", x.way(0, 8, 2), 0);
        Check.due("beyond where it is round", x.way(0, 8, 3), Check.NONE);
        for (int i : new int[] {11, 1000, Integer.MAX_VALUE, -1, -2, Integer.MIN_VALUE}) {
            Check.due("way(0, 1, " + i + ")", x.way(0, 1, i), Check.NONE);
        }
    }

    private static void wayRefused() {
        Check.sentence(16, "UNKNOWN");
        for (int p : NO_PLACES) {
            Made.refused("way(" + p + ", 0, 0)", Check.UNKNOWN, Made::rich, x -> x.way(p, 0, 0));
            Made.refused("way(0, " + p + ", 0)", Check.UNKNOWN, Made::rich, x -> x.way(0, p, 0));
            Made.refused("way(0, " + p + ", -1)", Check.UNKNOWN, Made::rich, x -> x.way(0, p, -1));
            Made.refused("way(" + p + ", 0, 99)", Check.UNKNOWN, Made::rich, x -> x.way(p, 0, 99));
        }
    }

    private static void howManySeen() {
        Check.sentence(17, "SEEN: how many");
        TurnedPosts x = Check.landOf(Made.STAR);
        Check.due("the first", x.seen(0, 5, 1), 1);
        Check.due("the same again", x.seen(0, 5, 1), 2);
        Check.due("one that does not fit it", x.seen(0, 5, 2), 3);
        Check.due("told(4)", x.told(4), 3);
        Check.due("of a post with one side", x.seen(5, 1, 0), 4);
    }

    private static void seenRefused() {
        Check.sentence(17, "UNKNOWN");
        for (int p : NO_PLACES) {
            Made.refused("seen(" + p + ", 0, 1)", Check.UNKNOWN, Made::rich, x -> x.seen(p, 0, 1));
            Made.refused("seen(0, " + p + ", 1)", Check.UNKNOWN, Made::rich, x -> x.seen(0, p, 1));
            Made.refused("seen(0, 1, " + p + ")", Check.UNKNOWN, Made::rich, x -> x.seen(0, 1, p));
            Made.refused("seen(0, 0, " + p + ")", Check.UNKNOWN, Made::rich, x -> x.seen(0, 0, p));
            Made.refused("seen(0, " + p + ", 0)", Check.UNKNOWN, Made::rich, x -> x.seen(0, p, 0));
        }
    }

    private static void seenWithoutRoadOrArm() {
        Check.sentence(17, "OUTSIDE: no ROAD from p to q, no ARM of p tells t");
        Made.refused("a road that goes between others", Check.OUTSIDE, Made::rich, x -> x.seen(0, 1, 4));
        Made.refused("a road to itself", Check.OUTSIDE, Made::rich, x -> x.seen(0, 1, 0));
        Made.refused("a road to a place apart", Check.OUTSIDE, Made::rich, x -> x.seen(0, 1, 2));
        Made.refused("a road from a place apart", Check.OUTSIDE, Made::rich, x -> x.seen(2, 0, 1));
        Made.refused("an arm for itself", Check.OUTSIDE, Made::rich, x -> x.seen(0, 0, 1));
        Made.refused("an arm for a place apart", Check.OUTSIDE, Made::rich, x -> x.seen(0, 2, 1));
        Made.refused("neither road nor arm", Check.OUTSIDE, Made::rich, x -> x.seen(0, 0, 0));
        Check.due("each place that is told, by each road", Made.rich().seen(0, 4, 3), 3);
        Check.due("by a road that was told from its other end", Made.rich().seen(0, 4, 1), 3);
    }

    private static void seenFallenOrNot() {
        Check.sentence(17, "(FALLEN or not)");
        TurnedPosts x = Check.landOf(Made.STAR);
        for (int i = 0; i < 5; i++) {
            x.fell(0, i, true);
        }
        Check.due("all arms have fallen", x.seen(0, 3, 3), 1);
        Check.due("an arm of one side has fallen", x.seen(1, 3, 0), 2);
        Check.due("itself still is told by none", x.seen(0, 0, 3), Check.OUTSIDE);
    }

    private static void fortySeen() {
        Check.sentence(17, "FULL (40)");
        TurnedPosts x = Check.landOf(Made.STAR);
        for (int k = 1; k <= 40; k++) {
            Check.due("sight " + k, x.seen(0, 1, k < 40 ? 1 : 2), k);
        }
        Check.due("the 40th counts", x.fits(0), 0);
        Check.due("the 41st", x.seen(5, 1, 0), Check.FULL);
        Check.due("the 41st is not", x.told(4), 40);
        Check.due("no road, at 40", x.seen(5, 1, 1), Check.OUTSIDE);
        Check.due("no place, at 40", x.seen(7, 1, 1), Check.UNKNOWN);
        x.forget();
        Check.due("room again", x.seen(0, 1, 1), 1);
        Check.sentence(0, "a stranger tells that at p an ARM that tells t stood at the ROAD to q (40 at most)");
        Made.refused("the 41st", Check.FULL, Made::full, y -> y.seen(0, 1, 1));
    }

    private static void forgotten() {
        Check.sentence(18, "Nothing is SEEN: how many there were.");
        TurnedPosts x = Made.full();
        Check.due("forty", x.forget(), 40);
        Check.due("none", x.forget(), 0);
        Check.due("told(4)", x.told(4), 0);
        Check.due("fits(3)", x.fits(3), 7);
        Check.due("the book stays", x.told(5), 20);
        Check.due("turns stay", x.told(7), 8);
        x.seen(3, 0, 4);
        Check.due("one", x.forget(), 1);
        Check.due("of a new object", Made.empty().forget(), 0);
    }

    private static void fits() {
        Check.sentence(19, "FIT of a POST (a SET of turns");
        TurnedPosts x = Check.landOf(Made.STAR);
        Check.due("nothing seen", x.fits(0), 31);
        for (int t = 1; t <= 5; t++) {
            for (int q = 1; q <= 5; q++) {
                x.forget();
                x.seen(0, t, q);
                // both ways round the post: the arm may stand ahead of its side or behind it
                Check.due("arm for " + t + " at the road to " + q, x.fits(0), 1 << (q - t + 5) % 5);
            }
        }
        x.forget();
        x.seen(0, 1, 2);
        x.seen(0, 5, 1);
        Check.due("two that agree", x.fits(0), 2);
        x.seen(0, 3, 3);
        Check.due("and one that does not", x.fits(0), 0);
        Check.due("one side, nothing seen", x.fits(1), 1);
        x.seen(1, 5, 0);
        Check.due("one side", x.fits(1), 1);
        x.turn(0, 3);
        Check.due("how it stands is no matter", x.fits(0), 0);
        Check.sentence(19, "UNKNOWN");
        for (int p : NO_PLACES) {
            Made.refused("fits(" + p + ")", Check.UNKNOWN, Made::rich, y -> y.fits(p));
        }
        Check.due("place 6 of seven", x.fits(6), 1);
        Check.due("place 7 of seven", x.fits(7), Check.UNKNOWN);
    }

    private static void fitsOfFallenArms() {
        Check.sentence(0, "(ARMS as they tell now, FALLEN ones as well as they would)");
        TurnedPosts x = Check.landOf(Made.STAR);
        x.seen(0, 2, 5);
        Check.due("the arm up", x.fits(0), 8);
        x.fell(0, 1, true);
        x.paint(0, 3, 0);
        Check.due("fallen behind the sight", x.fits(0), 8);
        x.seen(0, 2, 5);
        Check.due("fallen ahead of the sight", x.fits(0), 8);
        Check.due("sure all the same", x.sure() & 1, 1);
    }

    private static void fitsWithoutSides() {
        Check.sentence(19, "1 without SIDES");
        Check.due("place 6", Check.landOf(Made.STAR).fits(6), 1);
        Check.due("the only place", Check.landOf("places 1;").fits(0), 1);
    }

    private static void sure() {
        Check.sentence(20, "PLACES whose POSTS are SURE.");
        Check.due("of a new object", Made.empty().sure(), 0);
        Check.due("nine posts without sides", Check.landOf("places 9;").sure(), 511);
        Check.due("two ends of nine", Check.landOf(ROW).sure(), 257);
        Check.sentence(0, "the post is SURE, if just one does");
        TurnedPosts x = Check.landOf(ROW);
        Check.due("two turns fit", x.sure() & 2, 0);
        x.seen(1, 0, 2);
        Check.due("one turn fits", x.sure() & 2, 2);
        x.seen(1, 0, 0);
        Check.due("none fits", x.sure() & 2, 0);
        Check.due("the others as before", x.sure(), 257);
        x.seen(7, 8, 8);
        Check.due("another", x.sure(), 385);
        x.forget();
        Check.due("forgotten", x.sure(), 257);
    }

    private static void quarrelWithTheLand() {
        Check.sentence(0, "the first (PLACE by PLACE, then t) told miles that are not FAR");
        TurnedPosts x = Check.landOf(ROW);
        Check.due("none", x.quarrel(false), Check.NONE);
        x.paint(8, 7, 98);
        Check.due("a mile less, the last of all", x.quarrel(false), 87);
        x.paint(8, 7, 100);
        Check.due("a mile more", x.quarrel(false), 87);
        x.paint(8, 0, 0);
        Check.due("an earlier t", x.quarrel(false), 80);
        x.paint(4, 8, 999);
        Check.due("an earlier place, a later t", x.quarrel(false), 48);
        x.paint(0, 8, 0);
        Check.due("the first place, the last t", x.quarrel(false), 8);
        x.paint(0, 1, 98);
        Check.due("the first of all", x.quarrel(false), 1);
        x.right(511);
        x.turn(4, 1);
        Check.due("turns are none", x.quarrel(false), Check.NONE);
    }

    private static void quarrelOfTwo() {
        Check.sentence(0, "at the other end q for t (q is not t): miles at p less those at q are not the ROAD's: the first (by p, then t)");
        TurnedPosts x = Check.landOf("places 4;road 0 1 4;road 1 2 3;road 2 3 2;");
        Check.due("none", x.quarrel(true), Check.NONE);
        x.paint(0, 2, 8);
        Check.due("a mile more at p", x.quarrel(true), 2);
        x.paint(0, 2, 6);
        Check.due("a mile less at p", x.quarrel(true), 2);
        x.paint(1, 2, 2);
        Check.due("as much less at q, which is told by none at 2", x.quarrel(true), Check.NONE);
        Check.due("though with the land", x.quarrel(false), 2);
        x.right(15);
        x.paint(0, 1, 99);
        Check.due("q is t", x.quarrel(true), Check.NONE);
        x.paint(3, 0, 10);
        Check.due("the last place", x.quarrel(true), 30);
        x.paint(1, 3, 0);
        Check.due("0 less 1 is larger than the road", x.quarrel(true), 3);
        x.paint(0, 3, 4);
        Check.due("0 with 1 agree, 1 with 2 do not: below 0", x.quarrel(true), 13);
        x.paint(0, 2, 999);
        Check.due("an earlier t", x.quarrel(true), 2);
        x.right(15);
        x.turn(1, 1);
        Check.due("by the road of the true arm, however it is turned", x.quarrel(true), Check.NONE);
    }

    private static void quarrelOfTheFallen() {
        Check.sentence(0, "ARMS that have FALLEN quarrel with none");
        TurnedPosts x = Check.landOf("places 4;road 0 1 4;road 1 2 3;road 2 3 2;");
        x.paint(1, 3, 9);
        Check.due("with the land", x.quarrel(false), 13);
        Check.due("0 with 1", x.quarrel(true), 3);
        x.fell(0, 0, true);
        Check.due("0 fallen: 1 with 2", x.quarrel(true), 13);
        x.fell(2, 1, true);
        Check.due("2 fallen too: none", x.quarrel(true), Check.NONE);
        Check.due("1 is up: with the land still", x.quarrel(false), 13);
        x.fell(0, 0, false);
        x.fell(1, 1, true);
        Check.due("1 fallen: with none", x.quarrel(true), Check.NONE);
        Check.due("1 fallen: nor with the land", x.quarrel(false), Check.NONE);
        x.fell(1, 1, false);
        Check.due("up again", x.quarrel(true), 3);
    }

    private static void quarrelTold() {
        Check.sentence(21, "of two (two = true), with the land: 10 times PLACE p and t; NONE.");
        Check.due("of a new object, with the land", Made.empty().quarrel(false), Check.NONE);
        Check.due("of a new object, of two", Made.empty().quarrel(true), Check.NONE);
        Check.due("without roads", Check.landOf("places 9;").quarrel(true), Check.NONE);
        TurnedPosts x = Check.landOf(ROW);
        x.paint(8, 6, 0);
        Check.due("8 and 6, with the land", x.quarrel(false), 86);
        Check.due("8 and 6, of two", x.quarrel(true), 86);
        x.paint(0, 2, 0);
        Check.due("0 and 2, with the land", x.quarrel(false), 2);
        Check.due("0 and 2, of two", x.quarrel(true), 2);
    }
}
