import java.nio.charset.StandardCharsets;

/** What the tests share: feeding a text, comparing, the sentence that is held, and the exit code. */
final class Check {
    static final int NONE = -1, UNKNOWN = -1000000001, OUTSIDE = -1000000002, NOT = -1000000003, FULL = -1000000004;

    /** Five places, two ways round, a place with one road; the land of the shared runs. */
    static final String FIVE = "places 5;road 0 1 4;road 1 2 3;road 2 3 2;road 0 2 9;road 1 3 9;road 3 4 1;"
            + "goes 0 4 10;goes 4 0 5;goes 2 0 1;";

    private static int asked = 0;
    private static int wrong = 0;
    private static String sentence = "";
    private static int askedBefore = -1;

    private Check() {
    }

    /** The words of the document that the answers from here on hold; promise 0 is what stands ahead of promise 1. */
    static void sentence(int promise, String words) {
        endSentence();
        sentence = (promise == 0 ? "Terms" : "Promise " + promise) + " '" + words + "': ";
        askedBefore = asked;
        if (!Document.says(promise, words)) {
            blame(sentence + "the document does not say this");
        }
    }

    private static void endSentence() {
        if (asked == askedBefore) {
            blame(sentence + "nothing was asked for it");
        }
    }

    private static void blame(String line) {
        wrong++;
        System.out.println(line);
    }

    static void due(String call, long got, long want) {
        asked++;
        if (got != want) {
            blame(sentence + call + " answered " + got + ", due is " + want);
        }
    }

    static void holds(String what, boolean is) {
        due(what, is ? 1 : 0, 1);
    }

    static void feed(TurnedPosts x, String text) {
        feedBytes(x, text.getBytes(StandardCharsets.ISO_8859_1));
    }

    static void feedBytes(TurnedPosts x, byte[] bytes) {
        for (int from = 0; from < bytes.length; from += 8) {
            int n = Math.min(8, bytes.length - from);
            long packed = 0;
            for (int k = 0; k < n; k++) {
                packed = packed << 8 | bytes[from + k] & 255;
            }
            x.feed(n, packed);
        }
    }

    static TurnedPosts landOf(String text) {
        TurnedPosts x = new TurnedPosts();
        feed(x, text);
        int places = x.land();
        if (places < 0) {
            due("land() of '" + text + "'", places, 0);
        }
        return x;
    }

    /** A text without a fault. */
    static TurnedPosts good(String text, int places) {
        return read(text, places, NONE);
    }

    /** A text whose fault has this number and byte. */
    static void bad(String text, int fault, int at) {
        read(text, -10 - fault, at);
    }

    private static TurnedPosts read(String text, int answer, int faultAt) {
        TurnedPosts x = new TurnedPosts();
        feed(x, text);
        due("bytes of '" + text + "'", x.told(3), text.length());
        due("land() of '" + text + "'", x.land(), answer);
        due("fault() of '" + text + "'", x.fault(), faultAt);
        due("text behind '" + text + "'", x.told(3), 0);
        return x;
    }

    static void end(String name) {
        endSentence();
        System.out.println(name + ": " + asked + " answers, " + wrong + " not as due");
        if (asked == 0 || wrong != 0) {
            System.exit(1);
        }
    }
}
