import java.nio.charset.StandardCharsets;

/** What the tests share: feeding a text, comparing, and the exit code. */
final class Check {
    static final int NONE = -1, UNKNOWN = -1000000001, OUTSIDE = -1000000002, NOT = -1000000003, FULL = -1000000004;

    /** Five places, two ways round, a place with one road; the land of the shared runs. */
    static final String FIVE = "places 5;road 0 1 4;road 1 2 3;road 2 3 2;road 0 2 9;road 1 3 9;road 3 4 1;"
            + "goes 0 4 10;goes 4 0 5;goes 2 0 1;";

    private static int asked = 0;
    private static int wrong = 0;

    private Check() {
    }

    static void due(String call, long got, long want) {
        asked++;
        if (got != want) {
            wrong++;
            System.out.println(call + " answered " + got + ", due is " + want);
        }
    }

    static void holds(String what, boolean is) {
        due(what, is ? 1 : 0, 1);
    }

    static void feed(TurnedPosts x, String text) {
        feedBytes(x, text.getBytes(StandardCharsets.ISO_8859_1));
    }

    static void feedBytes(TurnedPosts x, byte[] bytes) {
        for (int from = 0; from < bytes.length; from += 8) {
            int n = Math.min(8, bytes.length - from);
            long packed = 0;
            for (int k = 0; k < n; k++) {
                packed = packed << 8 | bytes[from + k] & 255;
            }
            x.feed(n, packed);
        }
    }

    static TurnedPosts landOf(String text) {
        TurnedPosts x = new TurnedPosts();
        feed(x, text);
        int places = x.land();
        if (places < 0) {
            due("land() of '" + text + "'", places, 0);
        }
        return x;
    }

    static void end(String name) {
        System.out.println(name + ": " + asked + " answers, " + wrong + " not as due");
        if (asked == 0 || wrong != 0) {
            System.exit(1);
        }
    }
}
