import java.util.Map;
import java.util.function.Supplier;

/** Promises 1 to 7 (a new object, feed, land, fault, told, road, far), sentence by sentence, at the bounds. */
public final class LandBoundsTest {
    public static void main(String[] args) {
        calls512();
        numbersFromZero();
        bitKForK();
        newObject();
        oneToEightBytes();
        highestFirst();
        behindTheText();
        fullText();
        howManyPlaces();
        textIsEmptyThen();
        postsAsTheyShould();
        nothingSeenNoBook();
        imagesAreGone();
        seedStays();
        numberOfTheFault();
        allAsItWas();
        byteOfTheFault();
        noFault();
        tellings();
        tellingsOfNothing();
        tellingsOfAFullLand();
        noOtherTellings();
        roadsWithoutBounds();
        farOrNone();
        farUnknown();
        Check.end("LandBoundsTest");
    }

    private static void calls512() {
        Check.sentence(0, "An object is used for at most 512 calls after it has been made");
        TurnedPosts x = new TurnedPosts();
        Check.feed(x, "places 2;road 0 1 1;");
        x.land();
        int calls = 4;
        for (; calls < 511; calls++) {
            Check.due("seed, call " + (calls + 1), x.seed(calls), calls == 4 ? 0 : calls - 1);
        }
        Check.due("the 512th call", x.walk(0, 1, 1), 1);
    }

    private static void numbersFromZero() {
        Check.sentence(0, "What has a number has it from 0 on, as it comes.");
        TurnedPosts x = Check.landOf("places 3;road 2 1 5;road 1 0 6;road 0 2 50;");
        Check.due("place 0", x.far(0, 1), 6);
        Check.due("place 2", x.far(2, 1), 5);
        int[] miles = {5, 6, 50};
        for (int r = 0; r < 3; r++) {
            Check.due("road " + r, x.road(r, 2), miles[r]);
        }
        Check.due("side 0 of 2", x.arm(2, 0, 2), 0);
        Check.due("side 1 of 2", x.arm(2, 1, 2), 2);
        x.write(0, 1, 1, 7);
        Check.due("walk 0 of the book", x.judge(), 0);
        Check.due("image 0", x.keep(0), 1);
        Check.due("image 1", x.keep(1), 1);
    }

    private static void bitKForK() {
        Check.sentence(0, "A SET is a whole number, bit k for k (of PLACES, if nothing else is told).");
        TurnedPosts x = Check.landOf(Made.FULL_LAND);
        for (int p = 0; p < 9; p++) {
            x.turn(p, 1);
            Check.due("turned up to " + p, x.told(7), (2 << p) - 1);
        }
        for (int p = 8; p >= 0; p--) {
            Check.due("right(" + (1 << p) + ")", x.right(1 << p), 1);
            Check.due("turned below " + p, x.told(7), (1 << p) - 1);
        }
        TurnedPosts row = Check.landOf(Made.CHAIN);
        Check.due("all others", row.arm(0, 0, 0), 510);
        Check.due("all others of the last", row.arm(8, 0, 0), 255);
    }

    private static void newObject() {
        Check.sentence(1, "No PLACES.");
        Check.due("told(0)", Made.empty().told(0), 0);
        Check.due("post(0, 0)", Made.empty().post(0, 0), Check.UNKNOWN);
        Check.due("right(0)", Made.empty().right(0), 0);
        Check.due("right(1)", Made.empty().right(1), Check.UNKNOWN);
        Check.due("fewest()", Made.empty().fewest(), 0);
        Check.due("sure()", Made.empty().sure(), 0);
        Check.due("drift(99, 100)", Made.empty().drift(99, 100), 0);
        Check.due("forget()", Made.empty().forget(), 0);
        Check.due("tear()", Made.empty().tear(), 0);
    }

    private static void oneToEightBytes() {
        Check.sentence(2, "Up to eight bytes (n 1 .. 8) of a long");
        for (int n = 1; n <= 8; n++) {
            Check.due("feed(" + n + ")", Made.empty().feed(n, 0x2020202020202020L), n);
        }
        Check.sentence(2, "OUTSIDE");
        for (int n : new int[] {0, 9, -1, 16, 64, Integer.MIN_VALUE, Integer.MAX_VALUE}) {
            Made.refused("feed(" + n + ")", Check.OUTSIDE, Made::empty, x -> x.feed(n, 0x3B));
        }
    }

    private static void highestFirst() {
        Check.sentence(2, "the highest of these first");
        String text = "places 7;places 7;";
        // n bytes each time, with other bytes above them that are no part of it
        for (int n = 1; n <= 8; n++) {
            TurnedPosts x = new TurnedPosts();
            for (int from = 0; from < 9; from += n) {
                int many = Math.min(n, 9 - from);
                long bytes = -1;
                for (int k = 0; k < many; k++) {
                    bytes = bytes << 8 | text.charAt(from + k);
                }
                x.feed(many, bytes);
            }
            Check.due("land() of nine bytes by " + n, x.land(), 7);
        }
        TurnedPosts high = new TurnedPosts();
        Check.feed(high, "places 7");
        high.feed(8, 0x3B202020202020FFL);
        Check.due("a byte of 255", high.land(), -11);
        Check.due("is the last of the eight", high.fault(), 15);
        TurnedPosts top = new TurnedPosts();
        top.feed(8, 0xF061636573203320L);
        Check.due("a highest byte of 240", top.land(), -11);
        Check.due("is the first", top.fault(), 0);
    }

    private static void behindTheText() {
        Check.sentence(2, "come behind THE TEXT: how many it has.");
        TurnedPosts x = new TurnedPosts();
        int has = 0;
        for (int n = 1; n <= 8; n++) {
            has += n;
            Check.due("feed(" + n + ") more", x.feed(n, 0x2020202020202020L), has);
        }
        Check.due("told(3)", x.told(3), 36);
        Check.feed(x, "places 4;");
        Check.due("land()", x.land(), 4);
    }

    private static TurnedPosts withBytes(int count) {
        TurnedPosts x = new TurnedPosts();
        Check.feed(x, " ".repeat(count));
        return x;
    }

    private static void fullText() {
        Check.sentence(2, "FULL (400)");
        for (int n = 1; n <= 8; n++) {
            int many = n;
            Check.due("feed(" + n + ") to 400", withBytes(400 - n).feed(n, 0x2020202020202020L), 400);
            Supplier<TurnedPosts> one = () -> withBytes(401 - many);
            Made.refused("feed(" + n + ") to 401", Check.FULL, one, x -> x.feed(many, 0x2020202020202020L));
            Supplier<TurnedPosts> full = () -> withBytes(400);
            Made.refused("feed(" + n + ") at 400", Check.FULL, full, x -> x.feed(many, 0x2020202020202020L));
        }
        TurnedPosts x = withBytes(400);
        x.feed(1, 'p');
        x.land();
        Check.due("room again behind land()", x.feed(8, 0x2020202020202020L), 8);
    }

    private static void howManyPlaces() {
        Check.sentence(3, "how many PLACES");
        Check.due("of an empty text", Made.empty().land(), 0);
        Check.good("places 1;", 1);
        Check.good("places 9;", 9);
    }

    private static void textIsEmptyThen() {
        Check.sentence(3, "THE TEXT (it is empty then) becomes THE LAND");
        TurnedPosts x = new TurnedPosts();
        Check.feed(x, "places 3;");
        x.land();
        Check.due("bytes behind a land", x.told(3), 0);
        Check.due("the next byte", x.feed(1, ' '), 1);
        Check.feed(x, "places x;");
        Check.due("a fault", x.land(), -11);
        Check.due("bytes behind a fault", x.told(3), 0);
        Check.due("the empty text is the land then", x.land(), 0);
        Check.due("the fault is gone", x.fault(), Check.NONE);
        Check.due("no places", x.told(0), 0);
    }

    private static void postsAsTheyShould() {
        Check.sentence(3, "all POSTS as they should be");
        TurnedPosts x = Made.withoutText();
        Check.feed(x, Made.RICH_LAND);
        Check.due("land() again", x.land(), 5);
        Check.due("turned", x.told(7), 0);
        for (int p = 0; p < 5; p++) {
            Check.due("turn of " + p, x.post(p, 1), 0);
            Check.due("fallen of " + p, x.post(p, 2), 0);
            for (int t = 0; t < 5; t++) {
                Check.due("miles(" + p + ", " + t + ")", x.miles(p, t), p == t ? Check.NONE : x.far(p, t));
            }
        }
        Check.due("right(31)", x.right(31), 0);
        // a place that the land between did not have comes back as it should be
        TurnedPosts y = Check.landOf(Made.FULL_LAND);
        y.turn(8, 1);
        y.fell(8, 0, true);
        Check.feed(y, "places 2;");
        y.land();
        Check.feed(y, Made.FULL_LAND);
        y.land();
        Check.due("place 8", y.right(511), 0);
    }

    private static void nothingSeenNoBook() {
        Check.sentence(3, "nothing SEEN, no BOOK");
        TurnedPosts x = Made.full();
        x.land();
        Check.due("seen", x.told(4), 0);
        Check.due("walks", x.told(5), 0);
        Check.feed(x, Made.RICH_LAND);
        x.land();
        Check.due("fits(3)", x.fits(3), 7);
        Check.due("judge()", x.judge(), Check.NONE);
        Check.due("the first sight", x.seen(3, 0, 4), 1);
        Check.due("the first walk", x.write(0, 0, 1, 0), 1);
    }

    private static void imagesAreGone() {
        Check.sentence(3, "IMAGES are gone");
        TurnedPosts x = Made.withoutText();
        Check.feed(x, Made.RICH_LAND);
        x.land();
        Check.due("image 0", x.goBack(0), Check.NOT);
        Check.due("image 1", x.goBack(1), Check.NOT);
        x.keep(1);
        x.land();
        Check.due("image 1, the text empty", x.goBack(1), Check.NOT);
    }

    private static void seedStays() {
        Check.sentence(3, "THE SEED stays");
        TurnedPosts x = Made.withoutText();
        Check.feed(x, Made.RICH_LAND);
        x.land();
        Check.due("the seed", x.seed(2147483647), 1234);
        x.land();
        Check.due("the seed, the text empty", x.seed(0), 2147483647);
    }

    private static void numberOfTheFault() {
        Check.sentence(3, "-10 less the number of its FAULT");
        String[] texts = {"x", "places 0;", "places 1;places 1;", "places 1;road 0 0 1;"};
        for (int fault = 1; fault <= 4; fault++) {
            TurnedPosts x = new TurnedPosts();
            Check.feed(x, texts[fault - 1]);
            Check.due("land() with fault " + fault, x.land(), -10 - fault);
        }
    }

    private static void allAsItWas() {
        Check.sentence(3, "(all is as it was)");
        String[] texts = {Made.FAULTY, "places 0;", "places 2;road 0 1 1;goes 0 1 5;places 2;", "places 9;road 8 7 1;road 7 8 1;"};
        Map<String, Integer> before = Whole.of(Made::withoutText);
        before.remove("fault()");
        for (String text : texts) {
            Map<String, Integer> behind = Whole.of(() -> {
                TurnedPosts x = Made.withoutText();
                Check.feed(x, text);
                x.land();
                return x;
            });
            Check.holds("a fault's byte", behind.remove("fault()") >= 0);
            Whole.same("land() of '" + text + "'", before, behind);
        }
        TurnedPosts x = new TurnedPosts();
        Check.feed(x, "places 2;;");
        Check.due("a fault on a new object", x.land(), -11);
        Check.due("still no places", x.told(0), 0);
    }

    private static void byteOfTheFault() {
        Check.sentence(4, "The byte of the FAULT of the latest land()");
        TurnedPosts x = new TurnedPosts();
        Check.feed(x, "x");
        x.land();
        Check.due("the first byte", x.fault(), 0);
        Check.feed(x, "places 2" + " ".repeat(392));
        Check.due("not the latest land() yet", x.fault(), 0);
        x.land();
        Check.due("the end of a full text", x.fault(), 400);
        Check.due("asked again", x.fault(), 400);
        Check.feed(x, "places 2;;");
        x.land();
        Check.due("the latest", x.fault(), 9);
    }

    private static void noFault() {
        Check.sentence(4, "NONE");
        Check.due("of a new object", Made.empty().fault(), Check.NONE);
        TurnedPosts x = Check.landOf("places 2;");
        Check.due("behind a land", x.fault(), Check.NONE);
        Check.feed(x, "y");
        x.land();
        x.land();
        Check.due("behind an empty land", x.fault(), Check.NONE);
    }

    private static void tellings() {
        Check.sentence(5, "0 PLACES, 1 ROADS, 2 TRAVELS, 3 bytes of THE TEXT, 4 what was SEEN, 5 walks of THE BOOK, 6 COST, "
                + "7 PLACES whose POSTS are TURNED (a SET)");
        TurnedPosts x = Check.landOf("places 4;road 0 1 1;road 1 2 1;goes 0 2 5;");
        Check.feed(x, "1234567");
        x.turn(1, 1);
        x.seen(1, 0, 0);
        x.seen(1, 0, 2);
        for (int k = 0; k < 6; k++) {
            x.write(0, 0, 1, 0);
        }
        int[] want = {4, 2, 1, 7, 2, 6, 5000, 2};
        for (int what = 0; what <= 7; what++) {
            Check.due("told(" + what + ")", x.told(what), want[what]);
        }
        x.right(15);
        x.fell(1, 0, true);
        x.paint(0, 1, 5);
        Check.due("neither fallen nor painted is turned", x.told(7), 0);
    }

    private static void tellingsOfNothing() {
        Check.sentence(5, "How many");
        TurnedPosts one = Check.landOf("places 1;");
        int[] want = {1, 0, 0, 0, 0, 0, 0, 0};
        for (int what = 0; what <= 7; what++) {
            Check.due("new told(" + what + ")", Made.empty().told(what), 0);
            Check.due("told(" + what + ") of one place", one.told(what), want[what]);
        }
    }

    private static void tellingsOfAFullLand() {
        Check.sentence(0, "1000 times C, if not (also if it cannot be reached)");
        TurnedPosts x = Check.landOf(Made.FULL_LAND);
        Check.due("all come", x.told(6), 0);
        for (int p = 0; p < 9; p++) {
            x.turn(p, 1);
        }
        for (int i = 0; i < 5; i++) {
            x.fell(0, i, true);
        }
        for (int k = 0; k < 40; k++) {
            x.seen(0, 1, 1);
        }
        for (int k = 0; k < 20; k++) {
            x.write(0, 1, 2, 0);
        }
        Check.feed(x, " ".repeat(400));
        int[] want = {9, 14, 20, 400, 40, 20, 1980000, 511};
        for (int what = 0; what <= 7; what++) {
            Check.due("full told(" + what + ")", x.told(what), want[what]);
        }
        Check.due("cannot be reached", Check.landOf("places 2;goes 0 1 99;goes 1 0 1;").told(6), 100000);
    }

    private static void noOtherTellings() {
        Check.sentence(5, "OUTSIDE");
        for (int what : new int[] {-1, 8, Integer.MIN_VALUE, Integer.MAX_VALUE}) {
            Made.refused("told(" + what + ")", Check.OUTSIDE, Made::rich, x -> x.told(what));
        }
    }

    private static void roadsWithoutBounds() {
        Check.sentence(6, "what = 0, 1 its PLACES, 2 miles");
        TurnedPosts x = Check.landOf(Made.FULL_LAND);
        int[] first = {0, 1, 99};
        int[] last = {2, 7, 99};
        for (int what = 0; what <= 2; what++) {
            Check.due("road(0, " + what + ")", x.road(0, what), first[what]);
            Check.due("road(13, " + what + ")", x.road(13, what), last[what]);
        }
        Check.due("as it was told, the higher place first", Check.landOf("places 9;road 8 0 1;").road(0, 0), 8);
        Check.sentence(6, "UNKNOWN, OUTSIDE");
        for (int r : new int[] {-1, 14, Integer.MIN_VALUE, Integer.MAX_VALUE}) {
            Check.due("road(" + r + ", 0)", x.road(r, 0), Check.UNKNOWN);
            Check.due("road(" + r + ", 3)", x.road(r, 3), Check.UNKNOWN);
        }
        for (int what : new int[] {-1, 3, Integer.MIN_VALUE, Integer.MAX_VALUE}) {
            Check.due("road(0, " + what + ")", x.road(0, what), Check.OUTSIDE);
            Check.due("road(13, " + what + ")", x.road(13, what), Check.OUTSIDE);
        }
        Check.due("a land without roads", Check.landOf("places 9;").road(0, 0), Check.UNKNOWN);
    }

    private static void farOrNone() {
        Check.sentence(7, "FAR; NONE.");
        TurnedPosts x = Check.landOf(Made.CHAIN);
        Check.due("to itself", x.far(8, 8), 0);
        Check.due("one road", x.far(7, 8), 99);
        Check.due("all roads", x.far(0, 8), 792);
        Check.due("and back", x.far(8, 0), 792);
        TurnedPosts apart = Check.landOf("places 4;road 0 1 1;road 2 3 1;");
        Check.due("apart", apart.far(0, 3), Check.NONE);
        Check.due("apart, the other way", apart.far(3, 0), Check.NONE);
        Check.due("without roads", Check.landOf("places 2;").far(0, 1), Check.NONE);
        Check.due("to itself without roads", Check.landOf("places 1;").far(0, 0), 0);
        TurnedPosts turned = Check.landOf(Made.CHAIN);
        turned.turn(4, 1);
        turned.fell(5, 0, true);
        turned.paint(0, 8, 5);
        Check.due("posts are no matter", turned.far(0, 8), 792);
        Check.sentence(0, "FAR: the fewest miles between PLACES.");
        Check.due("round is shorter by a mile", Check.landOf("places 3;road 0 1 99;road 0 2 49;road 2 1 49;").far(0, 1), 98);
        Check.due("round is alike", Check.landOf("places 3;road 0 1 98;road 0 2 49;road 2 1 49;").far(0, 1), 98);
        Check.due("round is longer by a mile", Check.landOf("places 3;road 0 1 97;road 0 2 49;road 2 1 49;").far(0, 1), 97);
    }

    private static void farUnknown() {
        Check.sentence(7, "UNKNOWN");
        for (int p : new int[] {-1, 5, 9, Integer.MIN_VALUE, Integer.MAX_VALUE}) {
            Made.refused("far(" + p + ", 0)", Check.UNKNOWN, Made::rich, x -> x.far(p, 0));
            Made.refused("far(0, " + p + ")", Check.UNKNOWN, Made::rich, x -> x.far(0, p));
            Made.refused("far(" + p + ", " + p + ")", Check.UNKNOWN, Made::rich, x -> x.far(p, p));
        }
    }
}
