import java.util.function.Supplier;
import java.util.function.ToIntFunction;

/** Objects in a state where much could be changed: what is refused must leave all of it. */
final class Made {
    /** Places 0 and 4 have two sides, 1 and 3 have three, 2 has none. */
    static final String RICH_LAND = "places 5;road 0 1 4;road 1 3 3;road 3 0 9;road 3 4 2;road 4 1 8;"
            + "goes 0 4 7;goes 4 0 2;goes 1 0 3;goes 0 2 1;";
    static final int RICH_PLACES = 5;
    static final int RICH_ROADS = 5;
    static final String FAULTY = "places 9;road 0 1 x;";
    static final int FAULTY_BYTE = 18;

    /** Nine places, fourteen roads (five at place 0, two at least at each), twenty travels of ninety-nine: nothing has room for more. */
    static final String FULL_LAND = "places9;road0 1 99;road1 2 99;road2 3 99;road3 4 99;road4 5 99;road5 6 99;road6 7 99;"
            + "road7 8 99;road8 0 99;road0 4 99;road0 3 99;road0 5 99;road1 6 99;road2 7 99;"
            + "goes0 1 99;goes0 2 99;goes0 3 99;goes0 4 99;goes0 5 99;".repeat(4);

    /** Nine places in a row, each road as long as may be. */
    static final String CHAIN = "places 9;road 0 1 99;road 1 2 99;road 2 3 99;road 3 4 99;road 4 5 99;road 5 6 99;"
            + "road 6 7 99;road 7 8 99;";

    /** Place 0 has five sides: SIDE i leads to place i and one. */
    static final String STAR = "places 7;road 0 1 1;road 0 2 1;road 0 3 1;road 0 4 1;road 0 5 1;";

    private Made() {
    }

    static TurnedPosts empty() {
        return new TurnedPosts();
    }

    /** No post with sides as it should be, a seed, both images, sights, a book, a fault and half a text. */
    static TurnedPosts rich() {
        TurnedPosts x = withoutText();
        Check.feed(x, FAULTY);
        x.land();
        Check.feed(x, "places 3;ro");
        return x;
    }

    static TurnedPosts withoutText() {
        TurnedPosts x = Check.landOf(RICH_LAND);
        x.seed(77);
        x.turn(0, 1);
        x.paint(4, 0, 31);
        x.keep(0);
        x.turn(3, 2);
        x.fell(1, 1, true);
        x.seed(99);
        x.keep(1);
        x.right(1);
        x.fell(0, 1, true);
        x.paint(0, 1, 17);
        x.fell(4, 0, true);
        x.turn(1, 1);
        x.paint(3, 0, 50);
        x.seed(1234);
        x.seen(3, 0, 4);
        x.seen(1, 4, 3);
        x.write(0, 4, x.walk(0, 4, 0), x.walk(0, 4, 1));
        x.write(4, 0, 1, 9);
        return x;
    }

    /** The same land with no room for a byte, a sight, a walk more. */
    static TurnedPosts full() {
        TurnedPosts x = Check.landOf(RICH_LAND);
        Check.feed(x, " ".repeat(400));
        x.turn(3, 1);
        for (int k = 0; k < 40; k++) {
            x.seen(3, 0, k == 39 ? 0 : 4);
        }
        for (int k = 0; k < 20; k++) {
            x.write(0, 0, 1, k == 19 ? 1 : 0);
        }
        return x;
    }

    /** A refused call: what it answers, and that all is as it was. */
    static void refused(String call, int due, Supplier<TurnedPosts> made, ToIntFunction<TurnedPosts> asked) {
        Check.due(call, asked.applyAsInt(made.get()), due);
        Whole.unchanged(call, made, asked);
    }
}
