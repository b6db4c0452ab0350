import java.util.ArrayList;
import java.util.HashSet;
import java.util.List;
import java.util.Set;
import java.util.TreeSet;

/**
 * The document's words said a second time, slowly and by other ways than the class: tokens ahead of rules,
 * ways by trying all of them, what helps by doing it to a copy. The random runs compare the two.
 */
final class Model {
    private static final int NONE = -1, UNKNOWN = -1000000001, OUTSIDE = -1000000002, NOT = -1000000003, FULL = -1000000004;

    record Road(int a, int b, int miles) {
        int beyond(int p) {
            return p == a ? b : a;
        }
    }

    record Travel(int from, int to, int heads) {
    }

    record Sight(int p, int t, int q) {
    }

    record Walk(int end, int miles, List<Integer> places) {
        int last() {
            return places.get(places.size() - 1);
        }
    }

    record Page(int from, int to, int end, int miles) {
    }

    record Token(char kind, int at, String text) {
    }

    /** What images keep. */
    static final class Standing {
        int[] turns = new int[9];
        List<Set<Integer>> fallen = new ArrayList<>();
        int[][] told = new int[9][9];
        long seed;

        Standing() {
            for (int p = 0; p < 9; p++) {
                fallen.add(new TreeSet<>());
            }
        }

        Standing copy() {
            Standing c = new Standing();
            c.seed = seed;
            for (int p = 0; p < 9; p++) {
                c.turns[p] = turns[p];
                c.fallen.get(p).addAll(fallen.get(p));
                c.told[p] = told[p].clone();
            }
            return c;
        }
    }

    private StringBuilder text = new StringBuilder();
    private int places = 0;
    private List<Road> roads = new ArrayList<>();
    private List<Travel> travels = new ArrayList<>();
    private int fault = NONE;
    private Standing now = new Standing();
    private final Standing[] images = new Standing[2];
    private final List<Sight> sights = new ArrayList<>();
    private final List<Page> book = new ArrayList<>();

    // ---- the text

    private static List<Token> tokens(String s) {
        List<Token> list = new ArrayList<>();
        int at = 0;
        while (at < s.length()) {
            int from = at;
            char c = s.charAt(at);
            if (c >= 'a' && c <= 'z') {
                while (at < s.length() && s.charAt(at) >= 'a' && s.charAt(at) <= 'z') {
                    at++;
                }
                list.add(new Token('w', from, s.substring(from, at)));
            } else if (c >= '0' && c <= '9') {
                while (at < s.length() && s.charAt(at) >= '0' && s.charAt(at) <= '9') {
                    at++;
                }
                list.add(new Token('n', from, s.substring(from, at)));
            } else {
                at++;
                if (c != ' ') {
                    list.add(new Token(c == ';' ? ';' : '?', from, s.substring(from, at)));
                }
            }
        }
        list.add(new Token('e', s.length(), ""));
        return list;
    }

    private static int number(Token token, int least, int most) {
        if (token.text.length() > 3) {
            return NONE;
        }
        int value = Integer.parseInt(token.text);
        return value < least || value > most ? NONE : value;
    }

    /** {fault, byte}, or null; what was read stands in the two lists and the number of places. */
    private static int[] read(String s, int[] placesRead, List<Road> roadsRead, List<Travel> travelsRead) {
        List<Token> tokens = tokens(s);
        int[] degree = new int[9];
        int i = 0;
        while (tokens.get(i).kind != 'e') {
            Token word = tokens.get(i++);
            boolean first = placesRead[0] == 0;
            boolean isPlaces = word.text.equals("places");
            boolean isRoad = word.text.equals("road");
            boolean isGoes = word.text.equals("goes");
            if (word.kind != 'w' || !isPlaces && !isRoad && !isGoes || first && !isPlaces) {
                return new int[] {1, word.at};
            }
            if (isPlaces && !first || isRoad && roadsRead.size() == 14 || isGoes && travelsRead.size() == 20) {
                return new int[] {3, word.at};
            }
            int[] values = new int[isPlaces ? 1 : 3];
            for (int k = 0; k < values.length; k++) {
                Token token = tokens.get(i);
                if (token.kind != 'n') {
                    return new int[] {1, token.at};
                }
                i++;
                boolean place = !isPlaces && k < 2;
                values[k] = number(token, place ? 0 : 1, isPlaces ? 9 : place ? placesRead[0] - 1 : 99);
                if (values[k] == NONE) {
                    return new int[] {2, token.at};
                }
                if (k == 1) {
                    int a = values[0];
                    int b = values[1];
                    boolean again = roadsRead.stream().anyMatch(r -> Set.of(r.a, r.b).equals(new HashSet<>(List.of(a, b))));
                    if (a == b || isRoad && (again || degree[a] == 5 || degree[b] == 5)) {
                        return new int[] {4, token.at};
                    }
                }
            }
            if (tokens.get(i).kind != ';') {
                return new int[] {1, tokens.get(i).at};
            }
            i++;
            if (isPlaces) {
                placesRead[0] = values[0];
            } else if (isRoad) {
                roadsRead.add(new Road(values[0], values[1], values[2]));
                degree[values[0]]++;
                degree[values[1]]++;
            } else {
                travelsRead.add(new Travel(values[0], values[1], values[2]));
            }
        }
        return null;
    }

    int feed(int n, long bytes) {
        if (n < 1 || n > 8) {
            return OUTSIDE;
        }
        if (text.length() + n > 400) {
            return FULL;
        }
        StringBuilder back = new StringBuilder();
        for (int k = 0; k < n; k++) {
            back.append((char) (bytes & 255));
            bytes >>>= 8;
        }
        text.append(back.reverse());
        return text.length();
    }

    int land() {
        int[] placesRead = {0};
        List<Road> roadsRead = new ArrayList<>();
        List<Travel> travelsRead = new ArrayList<>();
        int[] found = read(text.toString(), placesRead, roadsRead, travelsRead);
        text = new StringBuilder();
        fault = found == null ? NONE : found[1];
        if (found != null) {
            return -10 - found[0];
        }
        places = placesRead[0];
        roads = roadsRead;
        travels = travelsRead;
        long seed = now.seed;
        now = new Standing();
        now.seed = seed;
        for (int p = 0; p < places; p++) {
            setRight(now, p);
        }
        images[0] = null;
        images[1] = null;
        sights.clear();
        book.clear();
        return places;
    }

    int fault() {
        return fault;
    }

    // ---- the land

    private boolean is(int p) {
        return 0 <= p && p < places;
    }

    private List<Integer> sides(int p) {
        List<Integer> list = new ArrayList<>();
        for (int r = 0; r < roads.size(); r++) {
            if (roads.get(r).a == p || roads.get(r).b == p) {
                list.add(r);
            }
        }
        return list;
    }

    /** The best of all ways that meet no place twice. */
    private int shortest(int p, int t, Set<Integer> been) {
        if (p == t) {
            return 0;
        }
        int best = NONE;
        Set<Integer> more = new HashSet<>(been);
        more.add(p);
        for (int r : sides(p)) {
            int q = roads.get(r).beyond(p);
            if (!more.contains(q)) {
                int rest = shortest(q, t, more);
                if (rest != NONE && (best == NONE || rest + roads.get(r).miles < best)) {
                    best = rest + roads.get(r).miles;
                }
            }
        }
        return best;
    }

    private int[][] knownFar = new int[0][0];
    private List<Road> knownFor = null;

    private int farOf(int a, int b) {
        if (knownFor != roads || knownFar.length != places) {
            knownFor = roads;
            knownFar = new int[places][places];
            for (int p = 0; p < places; p++) {
                for (int t = 0; t < places; t++) {
                    knownFar[p][t] = shortest(p, t, Set.of());
                }
            }
        }
        return knownFar[a][b];
    }

    private int trueArm(int p, int t) {
        List<Integer> list = sides(p);
        for (int i = 0; i < list.size() && p != t; i++) {
            Road r = roads.get(list.get(i));
            int rest = farOf(r.beyond(p), t);
            if (rest != NONE && rest + r.miles == farOf(p, t)) {
                return i;
            }
        }
        return NONE;
    }

    private void setRight(Standing s, int p) {
        s.turns[p] = 0;
        s.fallen.get(p).clear();
        for (int t = 0; t < places; t++) {
            s.told[p][t] = farOf(p, t);
        }
    }

    int told(int what) {
        int turned = 0;
        for (int p = 0; p < places; p++) {
            turned += now.turns[p] != 0 ? 1 << p : 0;
        }
        int[] all = {places, roads.size(), travels.size(), text.length(), sights.size(), book.size(), cost(now), turned};
        return what < 0 || what > 7 ? OUTSIDE : all[what];
    }

    int road(int r, int what) {
        if (r < 0 || r >= roads.size()) {
            return UNKNOWN;
        }
        Road road = roads.get(r);
        return what == 0 ? road.a : what == 1 ? road.b : what == 2 ? road.miles : OUTSIDE;
    }

    int far(int a, int b) {
        return is(a) && is(b) ? farOf(a, b) : UNKNOWN;
    }

    // ---- posts

    private static int setOf(Iterable<Integer> members) {
        int set = 0;
        for (int k : members) {
            set |= 1 << k;
        }
        return set;
    }

    int post(int p, int what) {
        if (!is(p)) {
            return UNKNOWN;
        }
        return what == 0 ? sides(p).size() : what == 1 ? now.turns[p] : what == 2 ? setOf(now.fallen.get(p)) : OUTSIDE;
    }

    int arm(int p, int i, int what) {
        if (!is(p)) {
            return UNKNOWN;
        }
        int n = sides(p).size();
        if (i < 0 || i >= n || what < 0 || what > 2) {
            return OUTSIDE;
        }
        if (what > 0) {
            return sides(p).get(what == 2 ? i : (i + now.turns[p]) % n);
        }
        List<Integer> names = new ArrayList<>();
        for (int t = 0; t < places; t++) {
            if (trueArm(p, t) == i) {
                names.add(t);
            }
        }
        return setOf(names);
    }

    private boolean tells(Standing s, int p, int t) {
        int arm = trueArm(p, t);
        return arm != NONE && !s.fallen.get(p).contains(arm);
    }

    int miles(int p, int t) {
        return !is(p) || !is(t) ? UNKNOWN : tells(now, p, t) ? now.told[p][t] : NONE;
    }

    int turn(int p, int k) {
        if (!is(p)) {
            return UNKNOWN;
        }
        if (k < 1 || k > 99) {
            return OUTSIDE;
        }
        if (sides(p).isEmpty()) {
            return NOT;
        }
        now.turns[p] = (now.turns[p] + k) % sides(p).size();
        return now.turns[p];
    }

    int fell(int p, int i, boolean is) {
        if (!is(p)) {
            return UNKNOWN;
        }
        if (i < 0 || i >= sides(p).size()) {
            return OUTSIDE;
        }
        Set<Integer> set = now.fallen.get(p);
        int had = set.contains(i) ? 1 : 0;
        if (is) {
            set.add(i);
        } else {
            set.remove(i);
        }
        return had;
    }

    int paint(int p, int t, int m) {
        if (!is(p) || !is(t)) {
            return UNKNOWN;
        }
        if (m < 0 || m > 999) {
            return OUTSIDE;
        }
        if (!tells(now, p, t)) {
            return NOT;
        }
        int was = now.told[p][t];
        now.told[p][t] = m;
        return was;
    }

    int right(int set) {
        if ((set & -(1 << places)) != 0) {
            return UNKNOWN;
        }
        int count = 0;
        for (int p = 0; p < places; p++) {
            if ((set & 1 << p) != 0) {
                Standing before = now.copy();
                setRight(now, p);
                boolean changed = before.turns[p] != 0 || !before.fallen.get(p).isEmpty();
                for (int t = 0; t < places; t++) {
                    changed |= before.told[p][t] != now.told[p][t];
                }
                count += changed ? 1 : 0;
            }
        }
        return count;
    }

    // ---- strangers

    private Walk walked(Standing s, int a, int t) {
        List<Integer> way = new ArrayList<>(List.of(a));
        int miles = 0;
        int at = a;
        while (at != t) {
            if (!tells(s, at, t)) {
                return new Walk(2, miles, way);
            }
            List<Integer> list = sides(at);
            Road r = roads.get(list.get((trueArm(at, t) + s.turns[at]) % list.size()));
            at = r.beyond(at);
            miles += r.miles;
            boolean again = way.contains(at);
            way.add(at);
            if (again) {
                return new Walk(3, miles, way);
            }
        }
        return new Walk(1, miles, way);
    }

    private int cost(Standing s) {
        int sum = 0;
        for (Travel g : travels) {
            Walk w = walked(s, g.from, g.to);
            sum += g.heads * (w.end == 1 ? w.miles - farOf(g.from, g.to) : 1000);
        }
        return sum;
    }

    int walk(int a, int t, int what) {
        if (!is(a) || !is(t)) {
            return UNKNOWN;
        }
        Walk w = walked(now, a, t);
        return what == 0 ? w.end : what == 1 ? w.miles : what == 2 ? w.last() : OUTSIDE;
    }

    int way(int a, int t, int i) {
        if (!is(a) || !is(t)) {
            return UNKNOWN;
        }
        List<Integer> list = walked(now, a, t).places;
        return i < 0 || i >= list.size() ? NONE : list.get(i);
    }

    int seen(int p, int t, int q) {
        if (!is(p) || !is(t) || !is(q)) {
            return UNKNOWN;
        }
        if (sides(p).stream().noneMatch(r -> roads.get(r).beyond(p) == q) || p == t || farOf(p, t) == NONE) {
            return OUTSIDE;
        }
        if (sights.size() == 40) {
            return FULL;
        }
        sights.add(new Sight(p, t, q));
        return sights.size();
    }

    int forget() {
        int had = sights.size();
        sights.clear();
        return had;
    }

    int fits(int p) {
        if (!is(p)) {
            return UNKNOWN;
        }
        List<Integer> list = sides(p);
        if (list.isEmpty()) {
            return 1;
        }
        int set = 0;
        for (int k = 0; k < list.size(); k++) {
            boolean all = true;
            for (Sight s : sights) {
                if (s.p == p) {
                    all &= roads.get(list.get((trueArm(p, s.t) + k) % list.size())).beyond(p) == s.q;
                }
            }
            set |= all ? 1 << k : 0;
        }
        return set;
    }

    int sure() {
        int set = 0;
        for (int p = 0; p < places; p++) {
            int fit = fits(p);
            set |= fit != 0 && (fit & fit - 1) == 0 ? 1 << p : 0;
        }
        return set;
    }

    int quarrel(boolean two) {
        for (int p = 0; p < places; p++) {
            for (int t = 0; t < places; t++) {
                if (!tells(now, p, t)) {
                    continue;
                }
                Road r = roads.get(sides(p).get(trueArm(p, t)));
                int q = r.beyond(p);
                boolean land = now.told[p][t] != farOf(p, t);
                boolean other = q != t && tells(now, q, t) && now.told[p][t] - now.told[q][t] != r.miles;
                if (two ? other : land) {
                    return 10 * p + t;
                }
            }
        }
        return NONE;
    }

    // ---- what helps

    private Standing withRight(int set) {
        Standing s = now.copy();
        for (int p = 0; p < places; p++) {
            if ((set & 1 << p) != 0) {
                setRight(s, p);
            }
        }
        return s;
    }

    int fewest() {
        int best = (1 << places) - 1;
        for (int set = best; set >= 0; set--) {
            if (Integer.bitCount(set) <= Integer.bitCount(best)) {
                Standing s = withRight(set);
                boolean all = travels.stream().allMatch(g -> farOf(g.from, g.to) == NONE || walked(s, g.from, g.to).end == 1);
                best = all ? set : best;
            }
        }
        return best;
    }

    int best(int what) {
        if (what != 0 && what != 1) {
            return OUTSIDE;
        }
        int best = NONE;
        for (int p = places - 1; p >= 0; p--) {
            if (best == NONE || cost(withRight(1 << p)) <= cost(withRight(1 << best))) {
                best = p;
            }
        }
        return what == 0 || best == NONE ? best : cost(withRight(1 << best));
    }

    private long comes(int at, int t, int o, long share, List<Integer> been) {
        if (at == t) {
            return share;
        }
        if (been.contains(at) || !tells(now, at, t)) {
            return 0;
        }
        List<Integer> more = new ArrayList<>(been);
        more.add(at);
        List<Integer> list = sides(at);
        int n = list.size();
        long[] parts = new long[n];
        parts[now.turns[at]] = n == 1 ? share : share * (100 - o) / 100;
        long left = share - parts[now.turns[at]];
        List<Integer> others = new ArrayList<>();
        for (int k = 0; k < n; k++) {
            if (k != now.turns[at]) {
                others.add(k);
            }
        }
        while (!others.isEmpty()) {
            long part = left / others.size();
            parts[others.remove(0)] = part;
            left -= part;
        }
        long sum = 0;
        for (int k = 0; k < n; k++) {
            Road r = roads.get(list.get((trueArm(at, t) + k) % n));
            sum += comes(r.beyond(at), t, o, parts[k], more);
        }
        return sum;
    }

    int odds(int a, int t, int o) {
        if (!is(a) || !is(t)) {
            return UNKNOWN;
        }
        return o < 0 || o > 100 ? OUTSIDE : (int) comes(a, t, o, 1000000000L, List.of());
    }

    /** The odds without cuts, by all turns of all posts at once. */
    double oddsByAllTurns(int a, int t, int o) {
        Standing s = now.copy();
        return byAllTurns(s, 0, a, t, o);
    }

    private double byAllTurns(Standing s, int p, int a, int t, int o) {
        if (p == places) {
            return walked(s, a, t).end == 1 ? 1 : 0;
        }
        int n = sides(p).size();
        if (n < 2) {
            return byAllTurns(s, p + 1, a, t, o);
        }
        double sum = 0;
        int was = s.turns[p];
        for (int k = 0; k < n; k++) {
            double part = k == was ? (100 - o) / 100.0 : o / 100.0 / (n - 1);
            s.turns[p] = k;
            sum += part * byAllTurns(s, p + 1, a, t, o);
        }
        s.turns[p] = was;
        return sum;
    }

    int needed(int p) {
        if (p != NONE && !is(p)) {
            return UNKNOWN;
        }
        Set<List<Integer>> arms = new HashSet<>();
        for (Travel g : travels) {
            Walk w = walked(now, g.from, g.to);
            for (int q : w.places) {
                if (w.end == 1 && q != g.to) {
                    arms.add(List.of(q, trueArm(q, g.to)));
                }
            }
        }
        int set = 0;
        for (List<Integer> arm : arms) {
            set |= arm.get(0) == p ? 1 << arm.get(1) : 0;
        }
        return p == NONE ? arms.size() : set;
    }

    // ---- books, draws, images

    int write(int a, int t, int end, int miles) {
        if (!is(a) || !is(t)) {
            return UNKNOWN;
        }
        if (end < 1 || end > 3 || miles < 0 || miles > 9999) {
            return OUTSIDE;
        }
        if (book.size() == 20) {
            return FULL;
        }
        book.add(new Page(a, t, end, miles));
        return book.size();
    }

    int tear() {
        int had = book.size();
        book.clear();
        return had;
    }

    int judge() {
        for (int k = 0; k < book.size(); k++) {
            Walk w = walked(now, book.get(k).from, book.get(k).to);
            if (w.end != book.get(k).end || w.miles != book.get(k).miles) {
                return k;
            }
        }
        return NONE;
    }

    private int draw(int n) {
        now.seed = (now.seed * 1103515245L + 12345L) % (1L << 31);
        return (int) (now.seed / 65536 % n);
    }

    int drift(int n, int o) {
        if (n < 1 || n > 99 || o < 0 || o > 100) {
            return OUTSIDE;
        }
        for (int night = 0; night < n; night++) {
            for (int p = 0; p < places; p++) {
                int count = sides(p).size();
                if (draw(100) < o && count > 0) {
                    now.turns[p] = (now.turns[p] + draw(count)) % count;
                }
            }
        }
        return cost(now);
    }

    int seed(int v) {
        if (v < 0) {
            return OUTSIDE;
        }
        int was = (int) now.seed;
        now.seed = v;
        return was;
    }

    int keep(int i) {
        if (i != 0 && i != 1) {
            return UNKNOWN;
        }
        images[i] = now.copy();
        return 1;
    }

    int goBack(int i) {
        if (i != 0 && i != 1) {
            return UNKNOWN;
        }
        if (images[i] == null) {
            return NOT;
        }
        now = images[i].copy();
        return 1;
    }
}
