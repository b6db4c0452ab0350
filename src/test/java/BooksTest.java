/** Promises 26 to 32: write, tear, judge, drift, seed, keep, goBack. */
public final class BooksTest {
    public static void main(String[] args) {
        writing();
        fullBook();
        judging();
        drifting();
        refusedDrifts();
        seeds();
        images();
        Check.end("BooksTest");
    }

    private static void writing() {
        TurnedPosts x = Check.landOf(Check.FIVE);
        Check.due("write(0, 4, 1, 0)", x.write(0, 4, 1, 0), 1);
        Check.due("write(4, 4, 3, 9999)", x.write(4, 4, 3, 9999), 2);
        Check.due("write(5, 0, 0, 0)", x.write(5, 0, 0, 0), Check.UNKNOWN);
        Check.due("write(0, 5, 0, 0)", x.write(0, 5, 0, 0), Check.UNKNOWN);
        Check.due("write(-1, 0, 1, 0)", x.write(-1, 0, 1, 0), Check.UNKNOWN);
        Check.due("write(0, 0, 0, 0)", x.write(0, 0, 0, 0), Check.OUTSIDE);
        Check.due("write(0, 0, 4, 0)", x.write(0, 0, 4, 0), Check.OUTSIDE);
        Check.due("write(0, 0, 1, -1)", x.write(0, 0, 1, -1), Check.OUTSIDE);
        Check.due("write(0, 0, 1, 10000)", x.write(0, 0, 1, 10000), Check.OUTSIDE);
        Check.due("how many", x.told(5), 2);
        Check.due("tear()", x.tear(), 2);
        Check.due("tear() again", x.tear(), 0);
        Check.due("none", x.told(5), 0);
    }

    private static void fullBook() {
        TurnedPosts x = Check.landOf(Check.FIVE);
        for (int k = 1; k <= 19; k++) {
            x.write(0, 4, 1, 10);
        }
        Check.due("the 20th", x.write(0, 4, 1, 11), 20);
        Check.due("the 21st", x.write(0, 4, 1, 11), Check.FULL);
        Check.due("OUTSIDE ahead of FULL", x.write(0, 4, 0, 11), Check.OUTSIDE);
        Check.due("UNKNOWN ahead of FULL", x.write(9, 4, 0, 11), Check.UNKNOWN);
        Check.due("the 20th is judged", x.judge(), 19);
        Check.due("tear 20", x.tear(), 20);
        Check.due("room again", x.write(0, 4, 1, 10), 1);
    }

    private static void judging() {
        Check.due("judge() without places", new TurnedPosts().judge(), Check.NONE);
        TurnedPosts x = Check.landOf(Check.FIVE);
        Check.due("an empty book", x.judge(), Check.NONE);
        x.write(0, 4, 1, 10);
        x.write(4, 0, 1, 10);
        x.write(3, 3, 1, 0);
        Check.due("all so", x.judge(), Check.NONE);
        x.write(2, 0, 2, 7);
        Check.due("another end", x.judge(), 3);
        x.turn(3, 1);
        // 4 goes by 3 and 1: fourteen miles
        x.tear();
        x.write(4, 0, 1, 14);
        x.write(4, 0, 1, 10);
        Check.due("other miles", x.judge(), 1);
        x.right(31);
        Check.due("judged as all stands now", x.judge(), 0);
        x.tear();
        x.fell(1, 1, true);
        x.write(0, 4, 2, 4);
        Check.due("lost", x.judge(), Check.NONE);
        x.fell(1, 1, false);
        x.turn(1, 2);
        x.write(0, 4, 3, 8);
        Check.due("round, no more lost", x.judge(), 0);
        x.tear();
        x.write(0, 4, 3, 8);
        Check.due("round", x.judge(), Check.NONE);
        x.right(31);
        x.tear();
        x.turn(0, 1);
        x.write(0, 1, 1, 12);
        Check.due("by a turn of place 0", x.judge(), Check.NONE);
    }

    /** The draws by the words of the document, on longs, apart from the class. */
    private static long drawn;

    private static int draw(int n) {
        drawn = (drawn * 1103515245L + 12345L) % 2147483648L;
        return (int) (drawn / 65536 % n);
    }

    private static void drifting() {
        TurnedPosts x = Check.landOf("places 6;road 0 1 4;road 1 2 3;road 2 3 2;road 0 2 9;road 1 3 9;road 3 4 1;");
        int[] sides = {2, 3, 3, 3, 1, 0};
        int[] turns = new int[6];
        drawn = 0;
        int[][] drifts = {{1, 100}, {1, 0}, {5, 40}, {99, 73}, {3, 1}, {2, 99}};
        for (int[] drift : drifts) {
            for (int night = 0; night < drift[0]; night++) {
                for (int p = 0; p < 6; p++) {
                    if (draw(100) < drift[1] && sides[p] > 0) {
                        turns[p] = (turns[p] + draw(sides[p])) % sides[p];
                    }
                }
            }
            Check.due("drift(" + drift[0] + ", " + drift[1] + ")", x.drift(drift[0], drift[1]), 0);
            for (int p = 0; p < 6; p++) {
                Check.due("turn of " + p, x.post(p, 1), turns[p]);
            }
            Check.due("the seed", x.seed((int) drawn), drawn);
        }
        TurnedPosts y = Check.landOf(Check.FIVE);
        y.turn(3, 1);
        y.seed(5);
        Check.due("cost by a drift", y.drift(5, 40), 15002);
        Check.due("cost behind it", y.told(6), 15002);
        Check.due("seed behind it", y.seed(0), 1277307868);
        TurnedPosts z = Check.landOf("places 3;road 0 1 1;road 0 2 1;goes 0 1 1;");
        z.turn(0, 1);
        Check.due("cost by a turn of place 0", z.drift(1, 0), 1000);
    }

    private static void refusedDrifts() {
        TurnedPosts x = Check.landOf(Check.FIVE);
        Check.due("drift(0, 0)", x.drift(0, 0), Check.OUTSIDE);
        Check.due("drift(100, 0)", x.drift(100, 0), Check.OUTSIDE);
        Check.due("drift(-1, 0)", x.drift(-1, 0), Check.OUTSIDE);
        Check.due("drift(1, -1)", x.drift(1, -1), Check.OUTSIDE);
        Check.due("drift(1, 101)", x.drift(1, 101), Check.OUTSIDE);
        Check.due("no draw by those", x.seed(0), 0);
        TurnedPosts none = new TurnedPosts();
        Check.due("drift without places", none.drift(99, 100), 0);
        Check.due("no draw without places", none.seed(0), 0);
    }

    private static void seeds() {
        TurnedPosts x = new TurnedPosts();
        Check.due("0 at first", x.seed(2147483647), 0);
        Check.due("seed(-1)", x.seed(-1), Check.OUTSIDE);
        Check.due("seed(MIN)", x.seed(Integer.MIN_VALUE), Check.OUTSIDE);
        Check.due("the highest", x.seed(12), 2147483647);
        Check.due("then", x.seed(0), 12);
    }

    private static void images() {
        TurnedPosts x = Check.landOf(Check.FIVE);
        Check.due("keep(2)", x.keep(2), Check.UNKNOWN);
        Check.due("keep(-1)", x.keep(-1), Check.UNKNOWN);
        Check.due("goBack(2)", x.goBack(2), Check.UNKNOWN);
        Check.due("goBack(-1)", x.goBack(-1), Check.UNKNOWN);
        Check.due("goBack(0) not kept", x.goBack(0), Check.NOT);
        Check.due("keep(0)", x.keep(0), 1);
        Check.due("goBack(1) not kept", x.goBack(1), Check.NOT);
        x.turn(1, 2);
        x.fell(2, 1, true);
        x.paint(0, 4, 77);
        x.seed(31);
        Check.due("keep(1)", x.keep(1), 1);
        x.seen(2, 4, 3);
        x.write(0, 0, 1, 0);
        Check.due("goBack(0)", x.goBack(0), 1);
        Check.due("turn gone", x.post(1, 1), 0);
        Check.due("arm up", x.post(2, 2), 0);
        Check.due("paint gone", x.miles(0, 4), 10);
        Check.due("what was seen stays", x.told(4), 1);
        Check.due("the book stays", x.told(5), 1);
        Check.due("seed back", x.seed(4), 0);
        Check.due("goBack(1)", x.goBack(1), 1);
        Check.due("turned again", x.post(1, 1), 2);
        Check.due("fallen again", x.post(2, 2), 2);
        Check.due("painted again", x.miles(0, 4), 77);
        Check.due("seed again", x.seed(8), 31);
        x.right(31);
        Check.due("goBack(1) once more", x.goBack(1), 1);
        Check.due("an image does not change by what comes later", x.post(1, 1), 2);
        x.right(31);
        Check.due("keep(1) anew", x.keep(1), 1);
        x.turn(0, 1);
        Check.due("goBack(1) anew", x.goBack(1), 1);
        Check.due("the later image", x.told(7), 0);
        TurnedPosts none = new TurnedPosts();
        Check.due("keep without places", none.keep(1), 1);
        none.seed(6);
        Check.due("goBack without places", none.goBack(1), 1);
        Check.due("its seed", none.seed(0), 0);
        Check.due("land()", none.land(), 0);
        Check.due("gone by land()", none.goBack(1), Check.NOT);
    }
}
