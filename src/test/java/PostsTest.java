/** Promises 8 to 14: post, arm, miles, turn, fell, paint, right. */
public final class PostsTest {
    public static void main(String[] args) {
        posts();
        arms();
        likeWays();
        milesTold();
        turning();
        falling();
        painting();
        settingRight();
        Check.end("PostsTest");
    }

    private static void posts() {
        TurnedPosts x = Check.landOf(Check.FIVE + "goes 1 2 3;");
        int[] sides = {2, 3, 3, 3, 1};
        for (int p = 0; p < 5; p++) {
            Check.due("sides of " + p, x.post(p, 0), sides[p]);
            Check.due("turn of " + p, x.post(p, 1), 0);
            Check.due("fallen of " + p, x.post(p, 2), 0);
        }
        x.turn(2, 2);
        x.fell(2, 0, true);
        x.fell(2, 2, true);
        Check.due("post(2, 1)", x.post(2, 1), 2);
        Check.due("post(2, 2)", x.post(2, 2), 5);
        Check.due("post(5, 0)", x.post(5, 0), Check.UNKNOWN);
        Check.due("post(-1, 0)", x.post(-1, 0), Check.UNKNOWN);
        Check.due("post(5, 9)", x.post(5, 9), Check.UNKNOWN);
        Check.due("post(4, 3)", x.post(4, 3), Check.OUTSIDE);
        Check.due("post(4, -1)", x.post(4, -1), Check.OUTSIDE);
        TurnedPosts lone = Check.landOf("places 1;");
        Check.due("no sides", lone.post(0, 0), 0);
        Check.due("no turn", lone.post(0, 1), 0);
    }

    private static void arms() {
        TurnedPosts x = Check.landOf(Check.FIVE);
        Check.due("arm(1, 0, 0)", x.arm(1, 0, 0), 1);
        Check.due("arm(1, 1, 0)", x.arm(1, 1, 0), 28);
        Check.due("arm(1, 2, 0)", x.arm(1, 2, 0), 0);
        int[] roads = {0, 1, 4};
        for (int i = 0; i < 3; i++) {
            Check.due("arm stands", x.arm(1, i, 1), roads[i]);
            Check.due("arm should", x.arm(1, i, 2), roads[i]);
        }
        x.turn(1, 1);
        x.fell(1, 1, true);
        for (int i = 0; i < 3; i++) {
            Check.due("turned arm stands", x.arm(1, i, 1), roads[(i + 1) % 3]);
            Check.due("turned arm should", x.arm(1, i, 2), roads[i]);
        }
        Check.due("a fallen arm's places", x.arm(1, 1, 0), 28);
        Check.due("arm(5, 0, 0)", x.arm(5, 0, 0), Check.UNKNOWN);
        Check.due("arm(-1, 9, 9)", x.arm(-1, 9, 9), Check.UNKNOWN);
        Check.due("arm(4, 1, 0)", x.arm(4, 1, 0), Check.OUTSIDE);
        Check.due("arm(4, -1, 0)", x.arm(4, -1, 0), Check.OUTSIDE);
        Check.due("arm(4, 0, 3)", x.arm(4, 0, 3), Check.OUTSIDE);
        Check.due("arm(4, 0, -1)", x.arm(4, 0, -1), Check.OUTSIDE);
        TurnedPosts lone = Check.landOf("places 1;");
        Check.due("arm without sides", lone.arm(0, 0, 0), Check.OUTSIDE);
    }

    /** Of like ways the least road is the true arm's, not the one with fewer places. */
    private static void likeWays() {
        TurnedPosts x = Check.landOf("places 4;road 0 2 2;road 2 3 2;road 0 3 4;road 0 1 1;road 1 3 3;");
        Check.due("arm 0 of 0", x.arm(0, 0, 0), 12);
        Check.due("arm 1 of 0", x.arm(0, 1, 0), 0);
        Check.due("arm 2 of 0", x.arm(0, 2, 0), 2);
        Check.due("arm 0 of 3", x.arm(3, 0, 0), 5);
        Check.due("arm 1 of 3", x.arm(3, 1, 0), 0);
        Check.due("arm 2 of 3", x.arm(3, 2, 0), 2);
        Check.due("way to 3", x.way(0, 3, 1), 2);
    }

    private static void milesTold() {
        TurnedPosts x = Check.landOf("places 4;road 0 1 4;road 1 2 3;");
        Check.due("miles(0, 2)", x.miles(0, 2), 7);
        Check.due("miles(0, 0)", x.miles(0, 0), Check.NONE);
        Check.due("miles(0, 3)", x.miles(0, 3), Check.NONE);
        Check.due("miles(3, 0)", x.miles(3, 0), Check.NONE);
        x.turn(1, 1);
        Check.due("miles of a turned post", x.miles(1, 2), 3);
        x.paint(0, 2, 5);
        Check.due("miles painted", x.miles(0, 2), 5);
        x.fell(0, 0, true);
        Check.due("miles of a fallen arm", x.miles(0, 2), Check.NONE);
        x.fell(0, 0, false);
        Check.due("miles of an arm up again", x.miles(0, 2), 5);
        Check.due("miles(4, 0)", x.miles(4, 0), Check.UNKNOWN);
        Check.due("miles(0, 4)", x.miles(0, 4), Check.UNKNOWN);
        Check.due("miles(0, -1)", x.miles(0, -1), Check.UNKNOWN);
    }

    private static void turning() {
        TurnedPosts x = Check.landOf(Check.FIVE);
        Check.due("turn(1, 1)", x.turn(1, 1), 1);
        Check.due("turn(1, 1) again", x.turn(1, 1), 2);
        Check.due("turn(1, 2)", x.turn(1, 2), 1);
        Check.due("turn(1, 99)", x.turn(1, 99), 1);
        Check.due("turn(1, 98)", x.turn(1, 98), 0);
        Check.due("turn(4, 7)", x.turn(4, 7), 0);
        Check.due("turn(0, 0)", x.turn(0, 0), Check.OUTSIDE);
        Check.due("turn(0, 100)", x.turn(0, 100), Check.OUTSIDE);
        Check.due("turn(0, -1)", x.turn(0, -1), Check.OUTSIDE);
        Check.due("turn(5, 1)", x.turn(5, 1), Check.UNKNOWN);
        Check.due("turn(5, 0)", x.turn(5, 0), Check.UNKNOWN);
        Check.due("turn(-1, 1)", x.turn(-1, 1), Check.UNKNOWN);
        Check.due("refused turns", x.told(7), 0);
        TurnedPosts lone = Check.landOf("places 2;");
        Check.due("turn without sides", lone.turn(1, 1), Check.NOT);
        Check.due("turn(1, 0) without sides", lone.turn(1, 0), Check.OUTSIDE);
        Check.due("turn(2, 0) without sides", lone.turn(2, 0), Check.UNKNOWN);
    }

    private static void falling() {
        TurnedPosts x = Check.landOf(Check.FIVE);
        Check.due("fell(1, 2, false)", x.fell(1, 2, false), 0);
        Check.due("fell(1, 2, true)", x.fell(1, 2, true), 0);
        Check.due("fell(1, 2, true) again", x.fell(1, 2, true), 1);
        Check.due("fell(1, 0, true)", x.fell(1, 0, true), 0);
        Check.due("two fallen", x.post(1, 2), 5);
        Check.due("fell(1, 2, false)", x.fell(1, 2, false), 1);
        Check.due("one fallen", x.post(1, 2), 1);
        Check.due("fell(1, 3, true)", x.fell(1, 3, true), Check.OUTSIDE);
        Check.due("fell(1, -1, true)", x.fell(1, -1, true), Check.OUTSIDE);
        Check.due("fell(5, 0, true)", x.fell(5, 0, true), Check.UNKNOWN);
        Check.due("fell(-1, 9, true)", x.fell(-1, 9, true), Check.UNKNOWN);
        Check.due("refused falls", x.post(1, 2), 1);
    }

    private static void painting() {
        TurnedPosts x = Check.landOf(Check.FIVE);
        Check.due("paint(0, 4, 0)", x.paint(0, 4, 0), 10);
        Check.due("paint(0, 4, 999)", x.paint(0, 4, 999), 0);
        Check.due("paint(0, 4, 1000)", x.paint(0, 4, 1000), Check.OUTSIDE);
        Check.due("paint(0, 4, -1)", x.paint(0, 4, -1), Check.OUTSIDE);
        Check.due("miles(0, 4)", x.miles(0, 4), 999);
        Check.due("its neighbour", x.miles(0, 3), 9);
        Check.due("paint(0, 0, 1)", x.paint(0, 0, 1), Check.NOT);
        Check.due("paint(0, 0, 1000)", x.paint(0, 0, 1000), Check.OUTSIDE);
        Check.due("paint(5, 0, 1000)", x.paint(5, 0, 1000), Check.UNKNOWN);
        Check.due("paint(0, 5, 1)", x.paint(0, 5, 1), Check.UNKNOWN);
        Check.due("paint(0, -1, 1)", x.paint(0, -1, 1), Check.UNKNOWN);
        x.fell(0, 0, true);
        Check.due("paint on a fallen arm", x.paint(0, 4, 5), Check.NOT);
        x.fell(0, 0, false);
        Check.due("nothing changed by that", x.paint(0, 4, 10), 999);
        Check.due("painted in truth", x.right(31), 0);
        TurnedPosts apart = Check.landOf("places 3;road 0 1 1;");
        Check.due("paint what cannot be reached", apart.paint(0, 2, 1), Check.NOT);
    }

    private static void settingRight() {
        TurnedPosts x = Check.landOf(Check.FIVE);
        x.turn(0, 1);
        x.fell(1, 2, true);
        x.paint(2, 4, 8);
        Check.due("right(32)", x.right(32), Check.UNKNOWN);
        Check.due("right(33)", x.right(33), Check.UNKNOWN);
        Check.due("right(-1)", x.right(-1), Check.UNKNOWN);
        Check.due("right(MIN)", x.right(Integer.MIN_VALUE), Check.UNKNOWN);
        Check.due("right(0)", x.right(0), 0);
        Check.due("refused, still turned", x.told(7), 1);
        Check.due("right(24)", x.right(24), 0);
        Check.due("right(3)", x.right(3), 2);
        Check.due("0 stands", x.post(0, 1), 0);
        Check.due("arm up", x.post(1, 2), 0);
        Check.due("2 still painted", x.miles(2, 4), 8);
        Check.due("right(31)", x.right(31), 1);
        Check.due("told in truth", x.miles(2, 4), 3);
        x.paint(3, 0, 1);
        x.fell(3, 0, true);
        x.turn(3, 1);
        Check.due("one post, three wrongs", x.right(8), 1);
        Check.due("all right", x.right(31), 0);
        x.paint(3, 0, 1);
        Check.due("painted for place 0 alone", x.right(31), 1);
        Check.due("3 tells 0", x.miles(3, 0), 9);
        TurnedPosts nine = Check.landOf("places 9;");
        Check.due("right(511)", nine.right(511), 0);
        Check.due("right(512)", nine.right(512), Check.UNKNOWN);
    }
}
