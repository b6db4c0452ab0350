/** 'Terms', section 1: the land's text, each bound of it just inside and just outside, and which fault is the first. */
public final class TextBoundsTest {
    /** Fourteen roads, five at place 0 of them; each pair once. */
    private static final String FOURTEEN = "places 9;road 0 1 1;road 0 2 1;road 0 3 1;road 0 4 1;road 0 5 1;road 1 2 1;road 2 3 1;"
            + "road 3 4 1;road 4 5 1;road 5 6 1;road 6 7 1;road 7 8 1;road 8 1 1;road 6 8 1;";
    private static final String TWENTY = "places 9;" + "goes 0 1 1;".repeat(20);
    private static final String FIVE_AT_0 = "places 9;road 0 1 1;road 0 2 1;road 0 3 1;road 0 4 1;road 0 5 1;";

    public static void main(String[] args) {
        fourHundredBytes();
        howManyPlaces();
        placesFirst();
        placesOnce();
        fourteenRoads();
        unlikePlaces();
        eachTwoOnce();
        milesOfRoads();
        fiveRoadsAtAPlace();
        twentyTravels();
        headsOfTravels();
        placesOfClauses();
        threeFigures();
        lettersAndFigures();
        blanksAnywhere();
        blanksNeeded();
        theEnd();
        cannotStand();
        numbersAtTheirFirst();
        tooOftenAtTheFirstLetter();
        pairsAtTheB();
        theFirstByte();
        theLeastFault();
        emptyText();
        Check.end("TextBoundsTest");
    }

    private static void fourHundredBytes() {
        Check.sentence(0, "told in a text (400 bytes at most)");
        Check.good(" ".repeat(391) + "places 9;", 9);
        Check.good("places" + " ".repeat(392) + "9;", 9);
        Check.good(Made.FULL_LAND + " ".repeat(400 - Made.FULL_LAND.length()), 9);
        Check.bad("places 9;" + " ".repeat(390) + "x", 1, 399);
        TurnedPosts x = new TurnedPosts();
        Check.feed(x, "places 9;" + " ".repeat(391));
        Check.due("the 401st byte", x.feed(1, 'x'), Check.FULL);
        Check.due("which is no part of the text", x.land(), 9);
        Check.due("told is a full land", Check.landOf(Made.FULL_LAND).told(1), 14);
    }

    private static void howManyPlaces() {
        Check.sentence(0, "'places' N ';' (1 .. 9; first, once)");
        Check.bad("places 0;", 2, 7);
        for (int n = 1; n <= 9; n++) {
            Check.due("places", Check.good("places " + n + ";", n).told(0), n);
        }
        Check.bad("places 10;", 2, 7);
        Check.bad("places 000;", 2, 7);
        Check.bad("places 999;", 2, 7);
    }

    private static void placesFirst() {
        Check.sentence(0, "another clause ahead of 'places': at its first letter");
        Check.bad("road 0 1 1;places 2;", 1, 0);
        Check.bad("goes 0 1 1;places 2;", 1, 0);
        Check.bad("   road 0 1 1;places 2;", 1, 3);
        Check.bad("   goes", 1, 3);
        Check.bad("road 9999", 1, 0);
    }

    private static void placesOnce() {
        Check.sentence(0, "3 'places' again");
        Check.good("places 2;", 2);
        Check.bad("places 2;places 2;", 3, 9);
        Check.bad("places 2;  places 3;", 3, 11);
        Check.bad("places 2;road 0 1 1;goes 0 1 1;places", 3, 31);
        Check.bad("places 2;places 0;", 3, 9);
    }

    private static void fourteenRoads() {
        Check.sentence(0, "14 ROADS at most");
        Check.due("roads", Check.good(FOURTEEN, 9).told(1), 14);
        Check.sentence(0, "a 15th ROAD");
        Check.bad(FOURTEEN + "road 5 7 1;", 3, FOURTEEN.length());
        Check.bad(FOURTEEN + "  road 5 7 1;", 3, FOURTEEN.length() + 2);
        Check.bad(FOURTEEN + "road", 3, FOURTEEN.length());
        Check.bad(FOURTEEN + "goes 0 1 1;road 5 7 1;", 3, FOURTEEN.length() + 11);
        Check.due("travels behind fourteen roads", Check.good(FOURTEEN + "goes 0 1 1;", 9).told(2), 1);
    }

    private static void unlikePlaces() {
        Check.sentence(0, "two unlike PLACES");
        Check.good("places 2;road 0 1 1;", 2);
        Check.good("places 2;road 1 0 1;", 2);
        Check.bad("places 2;road 0 0 1;", 4, 16);
        Check.bad("places 2;road 1 1 1;", 4, 16);
        Check.bad("places 9;road 8 8 1;", 4, 16);
        Check.bad("places 2;road 001 01 1;", 4, 18);
    }

    private static void eachTwoOnce() {
        Check.sentence(0, "each two once, either way round");
        String first = "places 3;road 0 1 1;";
        Check.bad(first + "road 0 1 1;", 4, 27);
        Check.bad(first + "road 0 1 2;", 4, 27);
        Check.bad(first + "road 1 0 1;", 4, 27);
        Check.good(first + "road 0 2 1;road 2 1 1;", 3);
        Check.bad(first + "road 0 2 1;road 2 1 1;road 2 0 1;", 4, 49);
        Check.bad(first + "road 0 2 1;road 2 1 1;road 1 2 1;", 4, 49);
    }

    private static void milesOfRoads() {
        Check.sentence(0, "1 .. 99 miles");
        Check.bad("places 2;road 0 1 0;", 2, 18);
        Check.due("miles", Check.good("places 2;road 0 1 1;", 2).road(0, 2), 1);
        Check.due("miles", Check.good("places 2;road 0 1 99;", 2).road(0, 2), 99);
        Check.due("miles", Check.good("places 2;road 0 1 099;", 2).road(0, 2), 99);
        Check.bad("places 2;road 0 1 100;", 2, 18);
        Check.bad("places 2;road 0 1 999;", 2, 18);
        Check.bad("places 2;road 0 1 000;", 2, 18);
    }

    private static void fiveRoadsAtAPlace() {
        Check.sentence(0, "5 ROADS at a PLACE at most");
        TurnedPosts x = Check.good(FIVE_AT_0, 9);
        Check.due("sides", x.post(0, 0), 5);
        Check.bad(FIVE_AT_0 + "road 0 6 1;", 4, FIVE_AT_0.length() + 7);
        Check.bad(FIVE_AT_0 + "road 6 0 1;", 4, FIVE_AT_0.length() + 7);
        Check.good(FIVE_AT_0 + "road 6 7 1;road 1 2 1;", 9);
        String atEight = "places 9;road 1 8 1;road 8 2 1;road 3 8 1;road 8 4 1;road 5 8 1;";
        Check.due("sides of the last place", Check.good(atEight, 9).post(8, 0), 5);
        Check.bad(atEight + "road 8 0 1;", 4, atEight.length() + 7);
        Check.bad(atEight + "road 0 8 1;", 4, atEight.length() + 7);
        Check.due("travels are no roads", Check.good(FIVE_AT_0 + "goes 0 6 1;goes 6 0 1;", 9).told(2), 2);
    }

    private static void twentyTravels() {
        Check.sentence(0, "20 TRAVELS at most");
        Check.due("travels", Check.good(TWENTY, 9).told(2), 20);
        Check.sentence(0, "a 21st TRAVEL (at its first letter)");
        Check.bad(TWENTY + "goes 0 1 1;", 3, TWENTY.length());
        Check.bad(TWENTY + "   goes 1 0 1;", 3, TWENTY.length() + 3);
        Check.bad(TWENTY + "goes", 3, TWENTY.length());
        Check.bad(TWENTY + "road 0 1 1;goes 0 1 1;", 3, TWENTY.length() + 11);
        Check.due("roads behind twenty travels", Check.good(TWENTY + "road 0 1 1;", 9).told(1), 1);
    }

    private static void headsOfTravels() {
        Check.sentence(0, "C strangers, 1 .. 99");
        Check.bad("places 2;goes 0 1 0;", 2, 18);
        Check.due("cost of one", Check.good("places 2;goes 0 1 1;", 2).told(6), 1000);
        Check.due("cost of 99", Check.good("places 2;goes 0 1 99;", 2).told(6), 99000);
        Check.bad("places 2;goes 0 1 100;", 2, 18);
        Check.sentence(0, "go from A to another PLACE B each day");
        Check.good("places 2;goes 1 0 1;goes 1 0 1;", 2);
        Check.bad("places 2;goes 0 0 1;", 4, 16);
        Check.bad("places 2;goes 1 1 1;", 4, 16);
        Check.bad("places 9;goes 8 008 1;", 4, 16);
    }

    private static void placesOfClauses() {
        Check.sentence(0, "or out of its bounds (at its first)");
        for (String word : new String[] {"road", "goes"}) {
            Check.good("places 9;" + word + " 8 0 1;", 9);
            Check.good("places 9;" + word + " 0 8 1;", 9);
            Check.bad("places 9;" + word + " 9 0 1;", 2, 14);
            Check.bad("places 9;" + word + " 0 9 1;", 2, 16);
            Check.good("places 2;" + word + " 1 0 1;", 2);
            Check.bad("places 2;" + word + " 2 0 1;", 2, 14);
            Check.bad("places 2;" + word + " 0 2 1;", 2, 16);
            Check.bad("places 1;" + word + " 0 1 1;", 2, 16);
            Check.bad("places 1;" + word + " 1 0 1;", 2, 14);
            Check.bad("places 1;" + word + " 0 0 1;", 4, 16);
        }
    }

    private static void threeFigures() {
        Check.sentence(0, "NUMBERS have one to three figures");
        Check.good("places 9;road 8 7 9;goes 7 8 9;", 9);
        Check.good("places 09;road 08 07 09;goes 07 08 09;", 9);
        Check.good("places 009;road 008 007 009;goes 007 008 009;", 9);
        Check.sentence(0, "2 a NUMBER of four figures or more");
        Check.bad("places 0009;", 2, 7);
        Check.bad("places 9;road 0008 7 9;", 2, 14);
        Check.bad("places 9;road 8 0007 9;", 2, 16);
        Check.bad("places 9;road 8 7 0009;", 2, 18);
        Check.bad("places 9;goes 0008 7 9;", 2, 14);
        Check.bad("places 9;goes 8 0007 9;", 2, 16);
        Check.bad("places 9;goes 8 7 0009;", 2, 18);
        Check.bad("places 00000000000000000000000000000000000001;", 2, 7);
        // no row of figures wraps round into the bounds: 2 to the 32 and 1, 2 to the 64 and 1
        Check.bad("places 4294967297;", 2, 7);
        Check.bad("places 18446744073709551617;", 2, 7);
        Check.bad("places " + "1".repeat(393), 2, 7);
    }

    private static void lettersAndFigures() {
        Check.sentence(0, "words are letters a .. z side by side");
        Check.bad("places" + (char) ('a' - 1) + " 3;", 1, 6);
        Check.bad("places" + (char) ('z' + 1) + " 3;", 1, 6);
        Check.bad("placesa 3;", 1, 0);
        Check.bad("placesz 3;", 1, 0);
        Check.bad("PLACES 3;", 1, 0);
        Check.bad("placeS 3;", 1, 0);
        Check.bad("places " + (char) ('0' - 1) + ";", 1, 7);
        Check.bad("places " + (char) ('9' + 1) + ";", 1, 7);
        Check.bad("places 3" + (char) ('0' - 1), 1, 8);
        Check.bad("places 3" + (char) ('9' + 1), 1, 8);
        for (int sign : new int[] {0, 1, 9, 10, 13, 31, 33, 58, 60, 95, 127, 128, 160, 176, 187, 255}) {
            Check.bad("places 3;" + (char) sign, 1, 9);
            Check.bad("places" + (char) sign + "3;", 1, 6);
            Check.bad((char) sign + "places 3;", 1, 0);
        }
    }

    private static void blanksAnywhere() {
        Check.sentence(0, "blanks (32) may stand anywhere but within words and NUMBERS");
        Check.good("   places   2   ;   road   0   1   5   ;   goes   0   1   5   ;   ", 2);
        Check.good("places2;road0 1 5;goes0 1 5;", 2);
        Check.good(" places2;", 2);
        Check.good("places2 ;", 2);
        Check.good("places2; ", 2);
        Check.bad("place s 2;", 1, 0);
        Check.bad("p laces 2;", 1, 0);
        Check.bad("places 2;roa d 0 1 5;", 1, 9);
        Check.bad("places 2;go es 0 1 5;", 1, 9);
        Check.bad("places 0 2;", 2, 7);
        Check.bad("places 1 2;", 1, 9);
        Check.bad("places 2;road 0 1 5 5;", 1, 20);
        for (int sign : new int[] {0, 9, 10, 13, 31, 33, 160}) {
            Check.bad("places 2;road 0" + (char) sign + "1 5;", 1, 15);
            Check.bad("places 2" + (char) sign + ";", 1, 8);
        }
    }

    private static void blanksNeeded() {
        Check.sentence(0, "two words, two NUMBERS side by side need one");
        Check.good("places 2;road 0 1 5;", 2);
        Check.bad("places 2;road 01 5;", 2, 17);
        Check.bad("places 9;road 01 5;", 1, 18);
        Check.bad("places 2;road 0 15;", 2, 16);
        Check.bad("places 2;roadgoes 0 1 5;", 1, 9);
        Check.bad("placesplaces 2;", 1, 0);
        // a word and a number side by side need none, but here no word can stand
        Check.bad("places 2;road 0 1 5road", 1, 19);
        Check.bad("places 2goes", 1, 8);
    }

    private static void theEnd() {
        Check.sentence(0, "(the end at the text's length)");
        String whole = "places 2;road 0 1 5;goes 0 1 5;";
        Check.good(whole, 2);
        int[] behindParts = {6, 8, 13, 15, 17, 19, 24, 26, 28, 30};
        for (int length : behindParts) {
            Check.bad(whole.substring(0, length), 1, length);
            Check.bad(whole.substring(0, length) + "   ", 1, length + 3);
        }
        for (int length : new int[] {9, 20, 31}) {
            Check.good(whole.substring(0, length), 2);
            Check.good(whole.substring(0, length) + "   ", 2);
        }
        Check.bad("places 2" + " ".repeat(392), 1, 400);
        Check.bad(" ".repeat(394) + "places", 1, 400);
        Check.bad("places 2;" + " ".repeat(387) + "road", 1, 400);
        Check.bad("places 2;" + " ".repeat(381) + "road 0 1 5", 1, 400);
    }

    private static void cannotStand() {
        Check.sentence(0, "1 it cannot stand there (a word that cannot");
        Check.bad("a", 1, 0);
        Check.bad(";", 1, 0);
        Check.bad("2", 1, 0);
        Check.bad("9999", 1, 0);
        Check.bad("place 2;", 1, 0);
        Check.bad("placess 2;", 1, 0);
        for (String word : new String[] {"places", "road", "goes"}) {
            // another letter, the same length: at each place of the word
            for (int k = 0; k < word.length(); k++) {
                Check.bad("places 2;" + word.substring(0, k) + "x" + word.substring(k + 1) + " 0 1 5;", 1, 9);
                Check.bad(word.substring(0, k) + "x" + word.substring(k + 1) + " 2;", 1, 0);
            }
        }
        Check.bad("places;", 1, 6);
        Check.bad("places places;", 1, 7);
        Check.bad("places two;", 1, 7);
        Check.bad("places 2;;", 1, 9);
        Check.bad("places 2;2;", 1, 9);
        Check.bad("places 2;9999;", 1, 9);
        Check.bad("places 2;roa 0 1 5;", 1, 9);
        Check.bad("places 2;roads 0 1 5;", 1, 9);
        Check.bad("places 2;goe 0 1 5;", 1, 9);
        Check.bad("places 2;goess 0 1 5;", 1, 9);
        Check.bad("places 2;road;", 1, 13);
        Check.bad("places 2;road 0;", 1, 15);
        Check.bad("places 2;road 0 1;", 1, 17);
        Check.bad("places 2;goes;", 1, 13);
        Check.bad("places 2;goes 0;", 1, 15);
        Check.bad("places 2;goes 0 1;", 1, 17);
        Check.bad("places 2;road 0 1 5 goes 0 1 5;", 1, 20);
        Check.bad("places 2;road road 0 1 5;", 1, 14);
        Check.bad("places 2;road 0 goes 1 5;", 1, 16);
        Check.bad("places 2;road 0 1 x;", 1, 18);
    }

    private static void numbersAtTheirFirst() {
        Check.sentence(0, "2 a NUMBER of four figures or more, or out of its bounds (at its first)");
        Check.bad("places  12345;", 2, 8);
        Check.bad("places   10;", 2, 9);
        Check.bad("places 2;road   12   0 1;", 2, 16);
        Check.bad("places 2;road 0   12 1;", 2, 18);
        Check.bad("places 2;road 0 1   123;", 2, 20);
    }

    private static void tooOftenAtTheFirstLetter() {
        Check.sentence(0, "3 'places' again, a 15th ROAD, a 21st TRAVEL (at its first letter)");
        Check.bad("places 9;    places", 3, 13);
        Check.bad(FOURTEEN + "    road", 3, FOURTEEN.length() + 4);
        Check.bad(TWENTY + "    goes", 3, TWENTY.length() + 4);
        String both = FOURTEEN + "goes 0 1 1;".repeat(20);
        Check.good(both, 9);
        Check.bad(both + "goes", 3, both.length());
        Check.bad(both + "road", 3, both.length());
        Check.bad(both + "places", 3, both.length());
    }

    private static void pairsAtTheB() {
        Check.sentence(0, "4 a ROAD, a TRAVEL from one to itself, a ROAD of two again, a sixth ROAD at a PLACE (at the B)");
        Check.bad("places 2;road   1   1   1;", 4, 20);
        Check.bad("places 2;goes   1   1   1;", 4, 20);
        Check.bad("places 2;road 0 1 1;road   1   0   1;", 4, 31);
        Check.bad(FIVE_AT_0 + "road   0   6   1;", 4, FIVE_AT_0.length() + 11);
        Check.bad(FIVE_AT_0 + "road   6   0   1;", 4, FIVE_AT_0.length() + 11);
        // a travel of two again, and one along a road, are none
        Check.good("places 2;road 0 1 1;goes 0 1 1;goes 0 1 1;goes 1 0 1;", 2);
    }

    private static void theFirstByte() {
        Check.sentence(0, "FAULTS, at the first byte that has one");
        Check.bad("places 2;road 0 0 x", 4, 16);
        Check.bad("places 2;road 0 0 999;", 4, 16);
        Check.bad("places 2;road 0 0", 4, 16);
        Check.bad("places 2;road 5 5 0;", 2, 14);
        Check.bad("places 2;road 0 5 x", 2, 16);
        Check.bad("places 10 x", 2, 7);
        Check.bad("places 0;road 0 0 0;places 0;", 2, 7);
        Check.bad("places 2;places x", 3, 9);
        Check.bad(FOURTEEN + "road 9 9 0;", 3, FOURTEEN.length());
        Check.bad(TWENTY + "goes 9 9 0;", 3, TWENTY.length());
        Check.bad("places 2;road 0 1 1;x;road 0 1 1;", 1, 20);
        Check.bad("road 0 0 0;", 1, 0);
    }

    private static void theLeastFault() {
        Check.sentence(0, "of these the least");
        // 1 and 3 at one byte: a word that stands too often where it cannot stand at all
        Check.bad("places 2 places 2;", 1, 9);
        Check.bad("places 2;goes 0 places", 1, 16);
        Check.bad(FOURTEEN + "goes 0 1 road", 1, FOURTEEN.length() + 9);
        Check.bad(TWENTY + "road 0 goes", 1, TWENTY.length() + 7);
        Check.bad("places 2;placesx", 1, 9);
        Check.bad(FOURTEEN + "roadx", 1, FOURTEEN.length());
        Check.bad(TWENTY + "goesx", 1, TWENTY.length());
        // 1 and 2 at one byte: a number with a fault of its own where none can stand
        Check.bad("0000", 1, 0);
        Check.bad("places 2;0000;", 1, 9);
        Check.bad("places 2 0000;", 1, 9);
        Check.bad("places 2;road 0 1 5 0000;", 1, 20);
        Check.bad("places 2;goes 0 1 5 0000", 1, 20);
        // 2 and 4 at one byte: the B itself again, with four figures
        Check.bad("places 2;road 0 0000 1;", 2, 16);
        Check.bad("places 2;goes 1 0001 1;", 2, 16);
        Check.bad("places 2;road 0 1 1;road 0 0001 1;", 2, 27);
        Check.bad(FIVE_AT_0 + "road 0 9 1;", 2, FIVE_AT_0.length() + 7);
    }

    private static void emptyText() {
        Check.sentence(0, "An empty text: no PLACES.");
        Check.due("land() of nothing", new TurnedPosts().land(), 0);
        TurnedPosts x = Check.landOf(Check.FIVE);
        Check.due("land() of nothing, the land full", x.land(), 0);
        Check.due("no fault", x.fault(), Check.NONE);
        for (int what = 0; what <= 7; what++) {
            Check.due("told(" + what + ")", x.told(what), 0);
        }
        Check.due("place 0", x.post(0, 0), Check.UNKNOWN);
        Check.due("road 0", x.road(0, 0), Check.UNKNOWN);
        // blanks may stand anywhere: alone they are as good as nothing
        Check.good(" ", 0);
        Check.good(" ".repeat(400), 0);
    }
}
