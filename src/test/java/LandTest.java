/** Promises 1 to 7: a new object, feed, land, fault, told, road, far. */
public final class LandTest {
    public static void main(String[] args) {
        newObject();
        feeding();
        goodTexts();
        faultsOfSigns();
        faultsOfNumbers();
        faultsOfTooMany();
        faultsOfPairs();
        faultLeavesAll();
        landStartsAnew();
        tellings();
        roads();
        distances();
        Check.end("LandTest");
    }

    private static void newObject() {
        TurnedPosts x = new TurnedPosts();
        for (int what = 0; what <= 7; what++) {
            Check.due("new told(" + what + ")", x.told(what), 0);
        }
        Check.due("new fault()", x.fault(), Check.NONE);
        Check.due("new road(0, 0)", x.road(0, 0), Check.UNKNOWN);
        Check.due("new far(0, 0)", x.far(0, 0), Check.UNKNOWN);
        Check.due("new post(0, 0)", x.post(0, 0), Check.UNKNOWN);
        Check.due("new arm(0, 0, 0)", x.arm(0, 0, 0), Check.UNKNOWN);
        Check.due("new miles(0, 0)", x.miles(0, 0), Check.UNKNOWN);
        Check.due("new turn(0, 1)", x.turn(0, 1), Check.UNKNOWN);
        Check.due("new fell(0, 0, true)", x.fell(0, 0, true), Check.UNKNOWN);
        Check.due("new paint(0, 0, 0)", x.paint(0, 0, 0), Check.UNKNOWN);
        Check.due("new right(1)", x.right(1), Check.UNKNOWN);
        Check.due("new right(0)", x.right(0), 0);
        Check.due("new walk(0, 0, 0)", x.walk(0, 0, 0), Check.UNKNOWN);
        Check.due("new way(0, 0, 0)", x.way(0, 0, 0), Check.UNKNOWN);
        Check.due("new seen(0, 0, 0)", x.seen(0, 0, 0), Check.UNKNOWN);
        Check.due("new fits(0)", x.fits(0), Check.UNKNOWN);
        Check.due("new odds(0, 0, 0)", x.odds(0, 0, 0), Check.UNKNOWN);
        Check.due("new needed(0)", x.needed(0), Check.UNKNOWN);
        Check.due("new needed(NONE)", x.needed(-1), 0);
        Check.due("new write(0, 0, 1, 0)", x.write(0, 0, 1, 0), Check.UNKNOWN);
        Check.due("new goBack(0)", x.goBack(0), Check.NOT);
        Check.due("new seed(0)", x.seed(0), 0);
    }

    private static void feeding() {
        TurnedPosts x = new TurnedPosts();
        Check.due("feed(0, ..)", x.feed(0, 65), Check.OUTSIDE);
        Check.due("feed(9, ..)", x.feed(9, 65), Check.OUTSIDE);
        Check.due("feed(-1, ..)", x.feed(-1, 65), Check.OUTSIDE);
        Check.due("refused feeds", x.told(3), 0);
        // higher bytes than the n lowest are no part of it: 'p' 'l' of more
        Check.due("feed(2, ..)", x.feed(2, 0x4141414141417061L & ~0xFFFFL | 0x706CL), 2);
        Check.feed(x, "aces 3;");
        Check.due("land() of what was fed", x.land(), 3);
        for (int k = 1; k <= 49; k++) {
            Check.due("feed 8 more", x.feed(8, 0x2020202020202020L), 8 * k);
        }
        Check.due("feed to 399", x.feed(7, 0x20202020202020L), 399);
        Check.due("feed(2) at 399", x.feed(2, 0x2020), Check.FULL);
        Check.due("feed(0) at 399", x.feed(0, 0), Check.OUTSIDE);
        Check.due("told(3) at 399", x.told(3), 399);
        Check.due("feed(1) at 399", x.feed(1, 0x20), 400);
        Check.due("feed(1) at 400", x.feed(1, 0x20), Check.FULL);
        Check.due("feed(9) at 400", x.feed(9, 0x20), Check.OUTSIDE);
        Check.due("told(3) at 400", x.told(3), 400);
    }

    private static void goodTexts() {
        Check.good("", 0);
        Check.good("    ", 0);
        Check.good("places 1;", 1);
        Check.good("places 9;", 9);
        Check.good("places 009;", 9);
        Check.good("  places  4  ;  ", 4);
        Check.good("places2;road0 1 99;goes0 1 99;", 2);
        Check.good("places 2 ;road 000 01 1 ; goes 1 0 001;", 2);
        Check.good("places 2;goes 0 1 5;goes 0 1 5;goes 1 0 5;road 1 0 7;", 2);
        Check.good("places 9" + ";" + " ".repeat(391), 9);
        Check.good("places 9;road 0 1 1;road 0 2 1;road 0 3 1;road 0 4 1;road 0 5 1;", 9);
    }

    private static void faultsOfSigns() {
        Check.bad("road 0 1 1;", 1, 0);
        Check.bad("goes 0 1 1;", 1, 0);
        Check.bad("  goes 0 1 1;", 1, 2);
        Check.bad("place 3;", 1, 0);
        Check.bad("placess 3;", 1, 0);
        Check.bad("Places 3;", 1, 0);
        Check.bad("placesz 3;", 1, 0);
        Check.bad("zlaces 3;", 1, 0);
        Check.bad("road 3;", 1, 0);
        Check.bad("3;", 1, 0);
        Check.bad(";", 1, 0);
        Check.bad("places", 1, 6);
        Check.bad("places  ", 1, 8);
        Check.bad("places;", 1, 6);
        Check.bad("places x;", 1, 7);
        Check.bad("places -1;", 1, 7);
        Check.bad("places 2", 1, 8);
        Check.bad("places 2  ", 1, 10);
        Check.bad("places 2 3;", 1, 9);
        Check.bad("places 2;;", 1, 9);
        Check.bad("places 2;5;", 1, 9);
        Check.bad("places 2;2222;", 1, 9);
        Check.bad("places 2 places 2;", 1, 9);
        Check.bad("places 2;road", 1, 13);
        Check.bad("places 2;roa", 1, 9);
        Check.bad("places 2;roads 0 1 1;", 1, 9);
        Check.bad("places 2;placesroad 0 1 1;", 1, 9);
        Check.bad("places 2;road 01 0;", 1, 18);
        Check.bad("places 2;road 0 1;", 1, 17);
        Check.bad("places 2;road 0 1 5", 1, 19);
        Check.bad("places 2;road 0 1 5x;", 1, 19);
        Check.bad("places 2;road 0 1 5 6;", 1, 20);
        Check.bad("places 2;road 0 1 goes", 1, 18);
        Check.bad("places 2;road, 0 1 5;", 1, 13);
        Check.bad("places 2;goes 0 1 5 road 0 1 5;", 1, 20);
        Check.bad("places 2;\troad 0 1 5;", 1, 9);
        Check.bad("places 2;" + (char) 233, 1, 9);
        Check.bad("places 2;" + (char) 0, 1, 9);
        Check.bad("pla ces 2;", 1, 0);
        Check.bad(" ".repeat(399) + "p", 1, 399);
    }

    private static void faultsOfNumbers() {
        Check.bad("places 0;", 2, 7);
        Check.bad("places 10;", 2, 7);
        Check.bad("places 0002;", 2, 7);
        Check.bad("places 4294967298;", 2, 7);
        Check.bad("places 10", 2, 7);
        Check.bad("places 2;road 2 0 1;", 2, 14);
        Check.bad("places 2;road 0000 0 1;", 2, 14);
        Check.bad("places 2;road 0 2 1;", 2, 16);
        Check.bad("places 2;road 0 0000 1;", 2, 16);
        Check.bad("places 2;road 2 2 1;", 2, 14);
        Check.bad("places 2;road 0 1 0;", 2, 18);
        Check.bad("places 2;road 0 1 100;", 2, 18);
        Check.bad("places 2;road 0 1 0001;", 2, 18);
        Check.bad("places 2;goes 0 1 0;", 2, 18);
        Check.bad("places 2;goes 0 1 100;", 2, 18);
        Check.bad("places 2;goes 2 1 1;", 2, 14);
        Check.bad("places 2;goes 1 2 1;", 2, 16);
        Check.bad("places 2;goes 1  9999 1;", 2, 17);
    }

    private static void faultsOfTooMany() {
        String roads = "places 9;road 0 1 1;road 1 2 1;road 2 3 1;road 3 4 1;road 4 5 1;road 5 6 1;road 6 7 1;"
                + "road 7 8 1;road 8 0 1;road 0 2 1;road 1 3 1;road 2 4 1;road 3 5 1;road 4 6 1;";
        Check.good(roads, 9);
        Check.bad(roads + "road 5 7 1;", 3, roads.length());
        Check.bad(roads + " road 0 0 1;", 3, roads.length() + 1);
        Check.bad(roads + "road", 3, roads.length());
        Check.bad(roads + "roadx", 1, roads.length());
        String travels = "places 9;" + "goes 0 1 1;".repeat(20);
        Check.good(travels, 9);
        Check.bad(travels + "goes 0 1 1;", 3, travels.length());
        Check.bad(travels + "goes 0 x", 3, travels.length());
        Check.good(roads + "goes 0 1 1;".repeat(20), 9);
        Check.bad("places 2;places 2;", 3, 9);
        Check.bad("places 1;places 1;", 3, 9);
        Check.bad("places 2;  places", 3, 11);
    }

    private static void faultsOfPairs() {
        Check.bad("places 2;road 0 0 1;", 4, 16);
        Check.bad("places 2;road 0 00 100;", 4, 16);
        Check.bad("places 2;road 0 0", 4, 16);
        Check.bad("places 2;goes 1 1 1;", 4, 16);
        Check.bad("places 1;road 0 0 1;", 4, 16);
        Check.bad("places 1;goes 0 0 1;", 4, 16);
        Check.bad("places 2;road 0 1 1;road 0 1 2;", 4, 27);
        Check.bad("places 2;road 0 1 1;road 1   0 2;", 4, 29);
        String star = "places 7;road 0 1 1;road 0 2 1;road 0 3 1;road 0 4 1;road 0 5 1;";
        Check.bad(star + "road 6 0 1;", 4, star.length() + 7);
        Check.bad(star + "road 0 6 1;", 4, star.length() + 7);
    }

    private static void faultLeavesAll() {
        TurnedPosts x = Check.landOf(Check.FIVE);
        x.turn(1, 1);
        x.seen(2, 4, 3);
        x.write(0, 4, 1, 10);
        x.keep(1);
        x.seed(9);
        Check.feed(x, "places 2;road 0 1 1;road 1 0 1;");
        Check.due("land() with a fault", x.land(), -14);
        Check.due("places behind a fault", x.told(0), 5);
        Check.due("roads behind a fault", x.told(1), 6);
        Check.due("travels behind a fault", x.told(2), 3);
        Check.due("text behind a fault", x.told(3), 0);
        Check.due("seen behind a fault", x.told(4), 1);
        Check.due("book behind a fault", x.told(5), 1);
        Check.due("turned behind a fault", x.told(7), 2);
        Check.due("far behind a fault", x.far(0, 4), 10);
        Check.due("image behind a fault", x.goBack(1), 1);
        Check.due("seed by the image", x.seed(1), 0);
    }

    private static void landStartsAnew() {
        TurnedPosts x = Check.landOf(Check.FIVE);
        x.turn(1, 1);
        x.fell(0, 0, true);
        x.paint(2, 4, 7);
        x.seen(2, 4, 3);
        x.write(0, 4, 1, 10);
        x.keep(0);
        x.keep(1);
        x.seed(77);
        Check.feed(x, "places 9;road;");
        Check.due("a fault", x.land(), -11);
        Check.due("its byte", x.fault(), 13);
        Check.feed(x, Check.FIVE);
        Check.due("land() again", x.land(), 5);
        Check.due("no fault now", x.fault(), Check.NONE);
        Check.due("no turns", x.told(7), 0);
        Check.due("nothing seen", x.told(4), 0);
        Check.due("no book", x.told(5), 0);
        Check.due("all posts right", x.right(31), 0);
        Check.due("image 0 gone", x.goBack(0), Check.NOT);
        Check.due("image 1 gone", x.goBack(1), Check.NOT);
        Check.due("the seed stays", x.seed(3), 77);
        Check.due("land() of nothing", x.land(), 0);
        Check.due("no places", x.told(0), 0);
        Check.due("no roads", x.told(1), 0);
        Check.due("no travels", x.told(2), 0);
        Check.due("no place 0", x.post(0, 0), Check.UNKNOWN);
        Check.due("the seed stays again", x.seed(3), 3);
        Check.feed(x, "places 3;road 2 1 5;");
        Check.due("a smaller land", x.land(), 3);
        Check.due("without sides", x.post(0, 0), 0);
        Check.due("not reached", x.far(0, 1), Check.NONE);
    }

    private static void tellings() {
        TurnedPosts x = Check.landOf(Check.FIVE);
        Check.feed(x, "abc");
        x.seen(2, 4, 3);
        x.seen(2, 4, 1);
        x.write(0, 4, 1, 10);
        x.turn(1, 1);
        x.turn(3, 2);
        x.turn(2, 3);
        int[] want = {5, 6, 3, 3, 2, 1, 16000, 10};
        for (int what = 0; what < 8; what++) {
            Check.due("told(" + what + ")", x.told(what), want[what]);
        }
        Check.due("told(8)", x.told(8), Check.OUTSIDE);
        Check.due("told(-1)", x.told(-1), Check.OUTSIDE);
        TurnedPosts apart = Check.landOf("places 3;road 0 1 1;goes 0 2 7;goes 2 1 3;");
        Check.due("cost of what cannot be reached", apart.told(6), 10000);
        TurnedPosts first = Check.landOf("places 3;road 0 1 1;road 0 2 1;goes 1 2 7;goes 0 1 2;");
        first.turn(0, 1);
        Check.due("cost by a turn of place 0", first.told(6), 9000);
    }

    private static void roads() {
        TurnedPosts x = Check.landOf("places 3;road 2 1 99;road 0 2 1;");
        int[] want = {2, 1, 99, 0, 2, 1};
        for (int k = 0; k < 6; k++) {
            Check.due("road(" + k / 3 + ", " + k % 3 + ")", x.road(k / 3, k % 3), want[k]);
        }
        Check.due("road(2, 0)", x.road(2, 0), Check.UNKNOWN);
        Check.due("road(-1, 0)", x.road(-1, 0), Check.UNKNOWN);
        Check.due("road(2, 3)", x.road(2, 3), Check.UNKNOWN);
        Check.due("road(1, 3)", x.road(1, 3), Check.OUTSIDE);
        Check.due("road(1, -1)", x.road(1, -1), Check.OUTSIDE);
    }

    private static void distances() {
        TurnedPosts x = Check.landOf("places 6;road 0 1 10;road 1 2 10;road 0 2 25;road 2 3 99;road 4 5 3;");
        Check.due("far(0, 0)", x.far(0, 0), 0);
        Check.due("far(0, 2)", x.far(0, 2), 20);
        Check.due("far(2, 0)", x.far(2, 0), 20);
        Check.due("far(0, 3)", x.far(0, 3), 119);
        Check.due("far(3, 1)", x.far(3, 1), 109);
        Check.due("far(4, 5)", x.far(4, 5), 3);
        Check.due("far(0, 4)", x.far(0, 4), Check.NONE);
        Check.due("far(6, 0)", x.far(6, 0), Check.UNKNOWN);
        Check.due("far(0, 6)", x.far(0, 6), Check.UNKNOWN);
        Check.due("far(-1, 0)", x.far(-1, 0), Check.UNKNOWN);
        TurnedPosts chain = Check.landOf("places 9;road 0 1 99;road 1 2 99;road 2 3 99;road 3 4 99;road 4 5 99;"
                + "road 5 6 99;road 6 7 99;road 7 8 99;");
        Check.due("the farthest", chain.far(8, 0), 792);
    }
}
