import java.util.Random;

/** Runs of calls drawn from fixed seeds, each answer held against the model's; and calls with any numbers at all. */
public final class RandomRunsTest {
    private static final int RUNS = 1500;
    private static final int CALLS = 500;
    private static final int WILD_RUNS = 300;

    private final Random random;
    private final TurnedPosts x = new TurnedPosts();
    private final Model m = new Model();
    private String call = "";

    private RandomRunsTest(long seed) {
        random = new Random(seed);
    }

    public static void main(String[] args) {
        for (int run = 0; run < RUNS; run++) {
            new RandomRunsTest(run).compare("run " + run);
        }
        for (int run = 0; run < WILD_RUNS; run++) {
            new RandomRunsTest(1000000 + run).callWildly();
        }
        for (int run = 0; run < 60; run++) {
            new RandomRunsTest(2000000 + run).compareOdds("odds " + run);
        }
        Check.end("RandomRunsTest");
    }

    private int below(int n) {
        return random.nextInt(n);
    }

    private String landText() {
        int n = 1 + below(9);
        StringBuilder b = new StringBuilder("places ").append(n).append(';');
        int mostRoads = below(16);
        int mostMiles = random.nextBoolean() ? 99 : 4;
        boolean[][] joined = new boolean[10][10];
        int[] degree = new int[10];
        boolean careful = below(5) > 0;
        for (int k = 0; k < mostRoads; k++) {
            int a = below(n);
            int b2 = below(n);
            boolean ok = a != b2 && !joined[a][b2] && degree[a] < 5 && degree[b2] < 5 && k < 14;
            if (ok || !careful && below(10) == 0) {
                joined[a][b2] = joined[b2][a] = true;
                degree[a]++;
                degree[b2]++;
                b.append("road ").append(a).append(' ').append(b2).append(' ').append(1 + below(mostMiles)).append(';');
            }
        }
        int mostTravels = below(22);
        for (int k = 0; k < mostTravels && b.length() < 385; k++) {
            int a = below(n);
            int b2 = below(n);
            if (a != b2 && k < 20 || !careful && below(10) == 0) {
                b.append("goes ").append(a).append(' ').append(b2).append(' ').append(1 + below(99)).append(';');
            }
        }
        return below(6) == 0 ? spoilt(b) : b.toString();
    }

    private String spoilt(StringBuilder b) {
        String signs = "  ;;0123456789placesroadgoesxA-";
        int times = 1 + below(3);
        for (int k = 0; k < times && b.length() > 0; k++) {
            int at = below(b.length());
            char sign = below(20) == 0 ? (char) below(256) : signs.charAt(below(signs.length()));
            switch (below(4)) {
                case 0 -> b.setCharAt(at, sign);
                case 1 -> b.insert(at, sign);
                case 2 -> b.deleteCharAt(at);
                default -> b.setLength(at);
            }
        }
        return b.toString();
    }

    private void feedBoth(String text) {
        for (int from = 0; from < text.length();) {
            int n = Math.min(1 + below(8), text.length() - from);
            long packed = random.nextLong();
            for (int k = 0; k < n; k++) {
                packed = packed << 8 | text.charAt(from + k) & 255;
            }
            Check.due("feed", x.feed(n, packed), m.feed(n, packed));
            from += n;
        }
    }

    private void landBoth(String name) {
        String text = landText();
        feedBoth(text);
        Check.due(name + " land() of '" + text + "'", x.land(), m.land());
        Check.due(name + " fault() of '" + text + "'", x.fault(), m.fault());
        for (int what = 0; what <= 7; what++) {
            Check.due(name + " told(" + what + ")", x.told(what), m.told(what));
        }
    }

    private int place() {
        return below(40) == 0 ? below(12) - 2 : below(Math.max(1, m.told(0)));
    }

    private void compare(String name) {
        landBoth(name);
        int often = 3 + below(60);
        for (int k = 0; k < CALLS; k++) {
            if (below(200) == 0) {
                landBoth(name);
            }
            int[] answers = below(often) == 0 ? askHelp() : askPlain();
            Check.due(name + ", call " + k + ": " + call, answers[0], answers[1]);
        }
    }

    private int[] askPlain() {
        int p = place();
        int t = place();
        int q = place();
        int small = below(8) - 1;
        switch (below(24)) {
            case 0: call = "told(" + small + ")"; return new int[] {x.told(small), m.told(small)};
            case 1: call = "road(" + t + ", " + small + ")"; return new int[] {x.road(t, small), m.road(t, small)};
            case 2: call = "far(" + p + ", " + t + ")"; return new int[] {x.far(p, t), m.far(p, t)};
            case 3: call = "post(" + p + ", " + small + ")"; return new int[] {x.post(p, small), m.post(p, small)};
            case 4: {
                int what = below(5) - 1;
                call = "arm(" + p + ", " + small + ", " + what + ")";
                return new int[] {x.arm(p, small, what), m.arm(p, small, what)};
            }
            case 5: call = "miles(" + p + ", " + t + ")"; return new int[] {x.miles(p, t), m.miles(p, t)};
            case 6: case 7: {
                int k = below(103) - 1;
                call = "turn(" + p + ", " + k + ")";
                return new int[] {x.turn(p, k), m.turn(p, k)};
            }
            case 8: {
                boolean is = below(3) == 0;
                call = "fell(" + p + ", " + small + ", " + is + ")";
                return new int[] {x.fell(p, small, is), m.fell(p, small, is)};
            }
            case 9: {
                int miles = below(3) == 0 ? below(1004) - 2 : m.far(p, t);
                call = "paint(" + p + ", " + t + ", " + miles + ")";
                return new int[] {x.paint(p, t, miles), m.paint(p, t, miles)};
            }
            case 10: {
                int set = random.nextInt() & (below(4) == 0 ? -1 : (1 << Math.max(0, m.told(0))) - 1) & random.nextInt();
                call = "right(" + set + ")";
                return new int[] {x.right(set), m.right(set)};
            }
            case 11: case 12: {
                int what = below(5) - 1;
                call = "walk(" + p + ", " + t + ", " + what + ")";
                return new int[] {x.walk(p, t, what), m.walk(p, t, what)};
            }
            case 13: call = "way(" + p + ", " + t + ", " + small + ")"; return new int[] {x.way(p, t, small), m.way(p, t, small)};
            case 14: call = "seen(" + p + ", " + t + ", " + q + ")"; return new int[] {x.seen(p, t, q), m.seen(p, t, q)};
            case 15: call = "fits(" + p + ")"; return new int[] {x.fits(p), m.fits(p)};
            case 16: call = "sure()"; return new int[] {x.sure(), m.sure()};
            case 17: call = "quarrel(true)"; return new int[] {x.quarrel(true), m.quarrel(true)};
            case 18: call = "quarrel(false)"; return new int[] {x.quarrel(false), m.quarrel(false)};
            case 19: return askWrite(p, t);
            case 20: call = "judge()"; return new int[] {x.judge(), m.judge()};
            case 21: call = "keep(" + small + ")"; return new int[] {x.keep(small), m.keep(small)};
            case 22: call = "goBack(" + small + ")"; return new int[] {x.goBack(small), m.goBack(small)};
            default: return askSeldom();
        }
    }

    private int[] askWrite(int p, int t) {
        int end = below(3) == 0 ? below(5) : m.walk(p, t, 0);
        int miles = below(4) == 0 ? below(30) == 0 ? 10000 : below(300) : m.walk(p, t, 1);
        call = "write(" + p + ", " + t + ", " + end + ", " + miles + ")";
        return new int[] {x.write(p, t, end, miles), m.write(p, t, end, miles)};
    }

    private int[] askSeldom() {
        switch (below(8)) {
            case 0: call = "forget()"; return new int[] {x.forget(), m.forget()};
            case 1: call = "tear()"; return new int[] {x.tear(), m.tear()};
            case 2: {
                int v = random.nextInt();
                call = "seed(" + v + ")";
                return new int[] {x.seed(v), m.seed(v)};
            }
            case 3: {
                int n = below(102);
                int o = below(104) - 1;
                call = "drift(" + n + ", " + o + ")";
                return new int[] {x.drift(n, o), m.drift(n, o)};
            }
            case 4: {
                int n = below(11) - 1;
                long bytes = random.nextLong();
                call = "feed(" + n + ", " + bytes + ")";
                return new int[] {x.feed(n, bytes), m.feed(n, bytes)};
            }
            case 5: call = "fault()"; return new int[] {x.fault(), m.fault()};
            default: return askHelp();
        }
    }

    private int[] askHelp() {
        switch (below(5)) {
            case 0: call = "fewest()"; return new int[] {x.fewest(), m.fewest()};
            case 1: {
                int what = below(4) - 1;
                call = "best(" + what + ")";
                return new int[] {x.best(what), m.best(what)};
            }
            case 2: {
                int p = below(4) == 0 ? -1 : place();
                call = "needed(" + p + ")";
                return new int[] {x.needed(p), m.needed(p)};
            }
            default: {
                int a = place();
                int t = place();
                int o = below(103) - 1;
                call = "odds(" + a + ", " + t + ", " + o + ")";
                return new int[] {x.odds(a, t, o), m.odds(a, t, o)};
            }
        }
    }

    /** Cuts lose less than one part at each parting, so the odds lie close to those by all turns. */
    private void compareOdds(String name) {
        String text = landText();
        feedBoth(text);
        x.land();
        m.land();
        // beyond six places all turns at once are too many
        for (int k = 0; k < 20 && x.told(0) <= 6; k++) {
            int p = place();
            int t = place();
            int o = below(101);
            x.turn(p, 1 + k);
            m.turn(p, 1 + k);
            if (x.far(p, t) != Check.UNKNOWN) {
                double off = x.odds(p, t, o) - 1e9 * m.oddsByAllTurns(p, t, o);
                Check.holds(name + " odds(" + p + ", " + t + ", " + o + ") of '" + text + "' off by " + off, Math.abs(off) < 1000);
            }
        }
    }

    private int wild() {
        int[] edges = {-1, 0, 1, 2, 3, 8, 9, 10, 99, 100, Integer.MAX_VALUE, Integer.MIN_VALUE, -1000000001};
        return below(3) == 0 ? edges[below(edges.length)] : below(2) == 0 ? below(10) : random.nextInt();
    }

    /** Nothing may throw; the machine's own exception would end the test. */
    private void callWildly() {
        long sum = 0;
        for (int k = 0; k < 512; k++) {
            if (k % 64 == 0) {
                Check.feed(x, landText());
            }
            sum += callAny(below(32));
        }
        Check.holds("an answer", sum != Long.MIN_VALUE);
    }

    private int callAny(int which) {
        switch (which) {
            case 0: return x.feed(wild(), random.nextLong());
            case 1: return x.land();
            case 2: return x.fault();
            case 3: return x.told(wild());
            case 4: return x.road(wild(), wild());
            case 5: return x.far(wild(), wild());
            case 6: return x.post(wild(), wild());
            case 7: return x.arm(wild(), wild(), wild());
            case 8: return x.miles(wild(), wild());
            case 9: return x.turn(wild(), wild());
            case 10: return x.fell(wild(), wild(), random.nextBoolean());
            case 11: return x.paint(wild(), wild(), wild());
            case 12: return x.right(wild());
            case 13: return x.walk(wild(), wild(), wild());
            case 14: return x.way(wild(), wild(), wild());
            case 15: return x.seen(wild(), wild(), wild());
            case 16: return x.forget();
            case 17: return x.fits(wild());
            case 18: return x.sure();
            case 19: return x.quarrel(random.nextBoolean());
            case 20: return x.fewest();
            case 21: return x.best(wild());
            case 22: return x.odds(wild(), wild(), wild());
            case 23: return x.needed(wild());
            case 24: return x.write(wild(), wild(), wild(), wild());
            case 25: return x.tear();
            case 26: return x.judge();
            case 27: return x.drift(wild(), wild());
            case 28: return x.seed(wild());
            case 29: return x.keep(wild());
            case 30: return x.goBack(wild());
            default: return x.told(6);
        }
    }
}
