/**
 * Signposts that were turned, and the strangers who go by their arms alone.
 * ../shared/DOC.md says what each call promises; words in its capitals are used here in small letters.
 */
public final class TurnedPosts {
    public static final int NONE = -1, UNKNOWN = -1000000001, OUTSIDE = -1000000002, NOT = -1000000003, FULL = -1000000004;

    private static final int MOST_BYTES = 400;
    private static final int MOST_PLACES = 9;
    private static final int MOST_ROADS = 14;
    private static final int MOST_SIDES = 5;
    private static final int MOST_TRAVELS = 20;
    private static final int MOST_SEEN = 40;
    private static final int MOST_WALKS = 20;
    private static final int MOST_ROAD_MILES = 99;
    private static final int MOST_HEADS = 99;
    private static final int MOST_PAINTED = 999;
    private static final int MOST_WRITTEN = 9999;
    private static final int MOST_TURN = 99;
    private static final int MOST_NIGHTS = 99;
    private static final int MOST_SEED = 2147483647;
    private static final int HUNDRED = 100;
    private static final int BILLION = 1000000000;
    private static final int NOT_COME_COST = 1000;

    private static final int COMES = 1;
    private static final int LOST = 2;
    private static final int ROUND = 3;

    private static final int CANNOT_STAND = 1;
    private static final int BAD_NUMBER = 2;
    private static final int TOO_OFTEN = 3;
    private static final int BAD_PAIR = 4;

    private final Text text;
    private final Land ground;
    private final Land draft;
    private final Reader reader;
    private final Posts posts;
    private final Stranger stranger;
    private final Day day;
    private final Night night;
    private final Sightings sightings;
    private final Book book;
    private final Draws draws;
    private final Image firstImage;
    private final Image secondImage;

    public TurnedPosts() {
        text = new Text();
        ground = new Land();
        draft = new Land();
        reader = new Reader(text, draft);
        posts = new Posts(ground);
        stranger = new Stranger(ground, posts);
        day = new Day(ground, stranger);
        night = new Night(ground, posts);
        sightings = new Sightings(ground);
        book = new Book();
        draws = new Draws();
        firstImage = new Image(ground);
        secondImage = new Image(ground);
    }

    // ---- the land

    public int feed(int n, long bytes) {
        if (n < 1 || n > 8) {
            return OUTSIDE;
        }
        if (!text.hasRoomFor(n)) {
            return FULL;
        }
        for (int k = n - 1; k >= 0; k--) {
            text.append((int) (bytes >>> (8 * k)) & 255);
        }
        return text.length();
    }

    public int land() {
        reader.readAll();
        text.clear();
        if (reader.faultKind() != 0) {
            return -10 - reader.faultKind();
        }
        ground.become(draft);
        posts.setAllRight();
        sightings.clear();
        book.clear();
        firstImage.drop();
        secondImage.drop();
        return ground.places();
    }

    public int fault() {
        return reader.faultByte();
    }

    public int told(int what) {
        switch (what) {
            case 0: return ground.places();
            case 1: return ground.roads();
            case 2: return ground.travels();
            case 3: return text.length();
            case 4: return sightings.size();
            case 5: return book.size();
            case 6: return day.costIfRight(0);
            case 7: return posts.turnedSet();
            default: return OUTSIDE;
        }
    }

    public int road(int r, int what) {
        if (!ground.hasRoad(r)) {
            return UNKNOWN;
        }
        switch (what) {
            case 0: return ground.roadStart(r);
            case 1: return ground.roadEnd(r);
            case 2: return ground.roadMiles(r);
            default: return OUTSIDE;
        }
    }

    public int far(int a, int b) {
        if (!ground.hasPlace(a) || !ground.hasPlace(b)) {
            return UNKNOWN;
        }
        return ground.fewestMiles(a, b);
    }

    // ---- posts

    public int post(int p, int what) {
        if (!ground.hasPlace(p)) {
            return UNKNOWN;
        }
        switch (what) {
            case 0: return ground.sidesOf(p);
            case 1: return posts.turnOf(p);
            case 2: return posts.fallenSet(p);
            default: return OUTSIDE;
        }
    }

    public int arm(int p, int i, int what) {
        if (!ground.hasPlace(p)) {
            return UNKNOWN;
        }
        if (!ground.hasSide(p, i)) {
            return OUTSIDE;
        }
        switch (what) {
            case 0: return ground.placesByArm(p, i);
            case 1: return ground.roadAtSide(p, posts.sideOfArm(p, i, posts.turnOf(p)));
            case 2: return ground.roadAtSide(p, i);
            default: return OUTSIDE;
        }
    }

    public int miles(int p, int t) {
        if (!ground.hasPlace(p) || !ground.hasPlace(t)) {
            return UNKNOWN;
        }
        return posts.milesTold(p, t);
    }

    public int turn(int p, int k) {
        if (!ground.hasPlace(p)) {
            return UNKNOWN;
        }
        if (k < 1 || k > MOST_TURN) {
            return OUTSIDE;
        }
        if (ground.sidesOf(p) == 0) {
            return NOT;
        }
        posts.turnFurther(p, k);
        return posts.turnOf(p);
    }

    public int fell(int p, int i, boolean is) {
        if (!ground.hasPlace(p)) {
            return UNKNOWN;
        }
        if (!ground.hasSide(p, i)) {
            return OUTSIDE;
        }
        int had = posts.hasFallen(p, i) ? 1 : 0;
        posts.setFallen(p, i, is);
        return had;
    }

    public int paint(int p, int t, int m) {
        if (!ground.hasPlace(p) || !ground.hasPlace(t)) {
            return UNKNOWN;
        }
        if (m < 0 || m > MOST_PAINTED) {
            return OUTSIDE;
        }
        int was = posts.milesTold(p, t);
        if (was == NONE) {
            return NOT;
        }
        posts.tellMiles(p, t, m);
        return was;
    }

    public int right(int set) {
        if (!ground.hasAllPlaces(set)) {
            return UNKNOWN;
        }
        int wrong = 0;
        for (int p = 0; p < ground.places(); p++) {
            if (isIn(set, p) && !posts.isRight(p)) {
                wrong++;
                posts.setRight(p);
            }
        }
        return wrong;
    }

    // ---- strangers

    public int walk(int a, int t, int what) {
        if (!ground.hasPlace(a) || !ground.hasPlace(t)) {
            return UNKNOWN;
        }
        if (what < 0 || what > 2) {
            return OUTSIDE;
        }
        stranger.goFromTo(a, t, 0);
        switch (what) {
            case 0: return stranger.ending();
            case 1: return stranger.milesGone();
            default: return stranger.placeBehind(stranger.roadsGone());
        }
    }

    public int way(int a, int t, int i) {
        if (!ground.hasPlace(a) || !ground.hasPlace(t)) {
            return UNKNOWN;
        }
        stranger.goFromTo(a, t, 0);
        return stranger.placeBehind(i);
    }

    public int seen(int p, int t, int q) {
        if (!ground.hasPlace(p) || !ground.hasPlace(t) || !ground.hasPlace(q)) {
            return UNKNOWN;
        }
        if (ground.sideTowards(p, q) == NONE || ground.trueArm(p, t) == NONE) {
            return OUTSIDE;
        }
        if (sightings.isFull()) {
            return FULL;
        }
        sightings.append(p, t, q);
        return sightings.size();
    }

    public int forget() {
        int had = sightings.size();
        sightings.clear();
        return had;
    }

    public int fits(int p) {
        if (!ground.hasPlace(p)) {
            return UNKNOWN;
        }
        return sightings.fittingTurns(p);
    }

    public int sure() {
        int set = 0;
        for (int p = 0; p < ground.places(); p++) {
            if (Integer.bitCount(sightings.fittingTurns(p)) == 1) {
                set |= 1 << p;
            }
        }
        return set;
    }

    public int quarrel(boolean two) {
        for (int p = 0; p < ground.places(); p++) {
            for (int t = 0; t < ground.places(); t++) {
                if (two ? posts.quarrelsOnTheWay(p, t) : posts.quarrelsWithLand(p, t)) {
                    return 10 * p + t;
                }
            }
        }
        return NONE;
    }

    // ---- what helps

    public int fewest() {
        // a fewest set holds no post that leads nobody astray
        int astray = posts.astraySet();
        for (int count = 0; count < MOST_PLACES; count++) {
            for (int set = 0; set <= astray; set++) {
                boolean tried = (set & ~astray) == 0 && Integer.bitCount(set) == count;
                if (tried && day.allComeIfRight(set)) {
                    return set;
                }
            }
        }
        return astray;
    }

    public int best(int what) {
        if (what < 0 || what > 1) {
            return OUTSIDE;
        }
        int place = NONE;
        int least = NONE;
        for (int p = 0; p < ground.places(); p++) {
            int cost = day.costIfRight(1 << p);
            if (place == NONE || cost < least) {
                place = p;
                least = cost;
            }
        }
        return what == 0 ? place : least;
    }

    public int odds(int a, int t, int o) {
        if (!ground.hasPlace(a) || !ground.hasPlace(t)) {
            return UNKNOWN;
        }
        if (o < 0 || o > HUNDRED) {
            return OUTSIDE;
        }
        return night.oddsToCome(a, t, o);
    }

    public int needed(int p) {
        if (p != NONE && !ground.hasPlace(p)) {
            return UNKNOWN;
        }
        day.markNeededArms();
        if (p != NONE) {
            return day.neededArms(p);
        }
        int count = 0;
        for (int q = 0; q < ground.places(); q++) {
            count += Integer.bitCount(day.neededArms(q));
        }
        return count;
    }

    // ---- books, draws, images

    public int write(int a, int t, int end, int miles) {
        if (!ground.hasPlace(a) || !ground.hasPlace(t)) {
            return UNKNOWN;
        }
        if (end < COMES || end > ROUND || miles < 0 || miles > MOST_WRITTEN) {
            return OUTSIDE;
        }
        if (book.isFull()) {
            return FULL;
        }
        book.append(a, t, end, miles);
        return book.size();
    }

    public int tear() {
        int had = book.size();
        book.clear();
        return had;
    }

    public int judge() {
        return book.firstWrong(stranger);
    }

    public int drift(int n, int o) {
        if (n < 1 || n > MOST_NIGHTS || o < 0 || o > HUNDRED) {
            return OUTSIDE;
        }
        for (int k = 0; k < n; k++) {
            driftOneNight(o);
        }
        return day.costIfRight(0);
    }

    private void driftOneNight(int o) {
        for (int p = 0; p < ground.places(); p++) {
            boolean turned = draws.next(HUNDRED) < o;
            if (turned && ground.sidesOf(p) > 0) {
                posts.turnFurther(p, draws.next(ground.sidesOf(p)));
            }
        }
    }

    public int seed(int v) {
        if (v < 0) {
            return OUTSIDE;
        }
        int was = draws.state();
        draws.startFrom(v);
        return was;
    }

    public int keep(int i) {
        if (i < 0 || i > 1) {
            return UNKNOWN;
        }
        imageOf(i).take(posts, draws);
        return 1;
    }

    public int goBack(int i) {
        if (i < 0 || i > 1) {
            return UNKNOWN;
        }
        Image image = imageOf(i);
        if (!image.isKept()) {
            return NOT;
        }
        image.giveBack(posts, draws);
        return 1;
    }

    private Image imageOf(int i) {
        return i == 0 ? firstImage : secondImage;
    }

    private static boolean isIn(int set, int k) {
        return k >= 0 && k < 31 && (set >> k & 1) != 0;
    }

    /** The bytes that were fed and not yet read. */
    private static final class Text {
        private final int[] bytes = new int[MOST_BYTES];
        private int count;

        int length() {
            return count;
        }

        boolean hasRoomFor(int n) {
            return n <= MOST_BYTES - count;
        }

        void append(int one) {
            if (count >= 0 && count < MOST_BYTES) {
                bytes[count] = one;
                count++;
            }
        }

        /** The end has a sign of its own, so that a reader needs no second test for it. */
        int signAt(int at) {
            return at >= 0 && at < count && at < MOST_BYTES ? bytes[at] : NONE;
        }

        void clear() {
            count = 0;
        }
    }

    /** Reads the text from left to right into a draft; by that order the first fault met is the first of all. */
    private static final class Reader {
        private static final int BLANK = 32;

        private final Text text;
        private final Land draft;
        private int at;
        private int kind;
        private int faultAt = NONE;

        Reader(Text text, Land draft) {
            this.text = text;
            this.draft = draft;
        }

        int faultKind() {
            return kind;
        }

        int faultByte() {
            return faultAt;
        }

        void readAll() {
            at = 0;
            kind = 0;
            faultAt = NONE;
            draft.clear();
            skipBlanks();
            for (int clause = 0; clause < MOST_BYTES && kind == 0 && at < text.length(); clause++) {
                readClause();
                skipBlanks();
            }
            if (kind == 0) {
                draft.survey();
            }
        }

        private void blame(int newKind, int where) {
            if (kind == 0) {
                kind = newKind;
                faultAt = where;
            }
        }

        private void readClause() {
            int first = at;
            skipWord();
            if (isWord(first, "places")) {
                readPlaces(first);
            } else if (draft.places() > 0 && isWord(first, "road")) {
                readRoad(first);
            } else if (draft.places() > 0 && isWord(first, "goes")) {
                readTravel(first);
            } else {
                blame(CANNOT_STAND, first);
            }
        }

        private void readPlaces(int first) {
            if (draft.places() > 0) {
                blame(TOO_OFTEN, first);
                return;
            }
            int n = readNumber(1, MOST_PLACES);
            readEnd();
            if (kind == 0) {
                draft.setPlaces(n);
            }
        }

        private void readRoad(int first) {
            if (draft.roads() >= MOST_ROADS) {
                blame(TOO_OFTEN, first);
                return;
            }
            int a = readNumber(0, draft.places() - 1);
            skipBlanks();
            int second = at;
            int b = readNumber(0, draft.places() - 1);
            if (kind == 0 && !draft.mayJoin(a, b)) {
                blame(BAD_PAIR, second);
            }
            int m = readNumber(1, MOST_ROAD_MILES);
            readEnd();
            if (kind == 0) {
                draft.addRoad(a, b, m);
            }
        }

        private void readTravel(int first) {
            if (draft.travels() >= MOST_TRAVELS) {
                blame(TOO_OFTEN, first);
                return;
            }
            int a = readNumber(0, draft.places() - 1);
            skipBlanks();
            int second = at;
            int b = readNumber(0, draft.places() - 1);
            if (a == b) {
                blame(BAD_PAIR, second);
            }
            int c = readNumber(1, MOST_HEADS);
            readEnd();
            if (kind == 0) {
                draft.addTravel(a, b, c);
            }
        }

        private int readNumber(int least, int most) {
            skipBlanks();
            int first = at;
            int value = 0;
            for (int k = 0; k < MOST_BYTES && isFigure(text.signAt(at)); k++) {
                // held below a thousand, so that no row of figures wraps round into the bounds
                value = Math.min(1000, value * 10 + text.signAt(at) - '0');
                at++;
            }
            if (at == first) {
                blame(CANNOT_STAND, first);
            } else if (at - first > 3 || value < least || value > most) {
                blame(BAD_NUMBER, first);
            }
            return value;
        }

        private void readEnd() {
            skipBlanks();
            if (text.signAt(at) == ';') {
                at++;
            } else {
                blame(CANNOT_STAND, at);
            }
        }

        private void skipBlanks() {
            for (int k = 0; k < MOST_BYTES && text.signAt(at) == BLANK; k++) {
                at++;
            }
        }

        private void skipWord() {
            for (int k = 0; k < MOST_BYTES && isLetter(text.signAt(at)); k++) {
                at++;
            }
        }

        private boolean isWord(int first, String word) {
            if (at - first != word.length()) {
                return false;
            }
            for (int k = 0; k < word.length(); k++) {
                if (text.signAt(first + k) != word.charAt(k)) {
                    return false;
                }
            }
            return true;
        }

        private static boolean isFigure(int sign) {
            return sign >= '0' && sign <= '9';
        }

        private static boolean isLetter(int sign) {
            return sign >= 'a' && sign <= 'z';
        }
    }

    /** Places, roads and travels, and what follows from them alone: how far, and which arm is the true one. */
    private static final class Land {
        /** More than the longest way of all roads together, and small enough to be added to itself. */
        private static final int TOO_FAR = 1000000;

        private int places;
        private int roads;
        private int travels;
        private final int[] starts = new int[MOST_ROADS];
        private final int[] ends = new int[MOST_ROADS];
        private final int[] lengths = new int[MOST_ROADS];
        private final int[] goers = new int[MOST_TRAVELS];
        private final int[] aims = new int[MOST_TRAVELS];
        private final int[] heads = new int[MOST_TRAVELS];
        private final int[] sides = new int[MOST_PLACES];
        private final int[] sideRoads = new int[MOST_PLACES * MOST_SIDES];
        private final int[] distances = new int[MOST_PLACES * MOST_PLACES];
        private final int[] trueArms = new int[MOST_PLACES * MOST_PLACES];

        void clear() {
            places = 0;
            roads = 0;
            travels = 0;
            for (int p = 0; p < MOST_PLACES; p++) {
                sides[p] = 0;
            }
        }

        void become(Land other) {
            places = other.places;
            roads = other.roads;
            travels = other.travels;
            System.arraycopy(other.starts, 0, starts, 0, MOST_ROADS);
            System.arraycopy(other.ends, 0, ends, 0, MOST_ROADS);
            System.arraycopy(other.lengths, 0, lengths, 0, MOST_ROADS);
            System.arraycopy(other.goers, 0, goers, 0, MOST_TRAVELS);
            System.arraycopy(other.aims, 0, aims, 0, MOST_TRAVELS);
            System.arraycopy(other.heads, 0, heads, 0, MOST_TRAVELS);
            System.arraycopy(other.sides, 0, sides, 0, MOST_PLACES);
            System.arraycopy(other.sideRoads, 0, sideRoads, 0, MOST_PLACES * MOST_SIDES);
            System.arraycopy(other.distances, 0, distances, 0, MOST_PLACES * MOST_PLACES);
            System.arraycopy(other.trueArms, 0, trueArms, 0, MOST_PLACES * MOST_PLACES);
        }

        int places() {
            return places;
        }

        int roads() {
            return roads;
        }

        int travels() {
            return travels;
        }

        boolean hasPlace(int p) {
            return p >= 0 && p < places && p < MOST_PLACES;
        }

        boolean hasAllPlaces(int set) {
            return set >= 0 && set >> places == 0;
        }

        boolean hasRoad(int r) {
            return r >= 0 && r < roads && r < MOST_ROADS;
        }

        boolean hasTravel(int g) {
            return g >= 0 && g < travels && g < MOST_TRAVELS;
        }

        boolean hasSide(int p, int i) {
            return hasPlace(p) && i >= 0 && i < sides[p] && i < MOST_SIDES;
        }

        int sidesOf(int p) {
            return hasPlace(p) ? sides[p] : 0;
        }

        int roadStart(int r) {
            return hasRoad(r) ? starts[r] : NONE;
        }

        int roadEnd(int r) {
            return hasRoad(r) ? ends[r] : NONE;
        }

        int roadMiles(int r) {
            return hasRoad(r) ? lengths[r] : 0;
        }

        int travelFrom(int g) {
            return hasTravel(g) ? goers[g] : NONE;
        }

        int travelTo(int g) {
            return hasTravel(g) ? aims[g] : NONE;
        }

        int travelHeads(int g) {
            return hasTravel(g) ? heads[g] : 0;
        }

        int roadAtSide(int p, int side) {
            return hasSide(p, side) ? sideRoads[p * MOST_SIDES + side] : NONE;
        }

        int beyondRoad(int p, int r) {
            return roadStart(r) == p ? roadEnd(r) : roadStart(r);
        }

        int sideTowards(int p, int q) {
            for (int side = 0; side < sidesOf(p); side++) {
                if (beyondRoad(p, roadAtSide(p, side)) == q) {
                    return side;
                }
            }
            return NONE;
        }

        int fewestMiles(int a, int b) {
            return hasPlace(a) && hasPlace(b) ? distances[a * MOST_PLACES + b] : NONE;
        }

        int trueArm(int p, int t) {
            return hasPlace(p) && hasPlace(t) ? trueArms[p * MOST_PLACES + t] : NONE;
        }

        int placesByArm(int p, int i) {
            int set = 0;
            for (int t = 0; t < places; t++) {
                if (trueArm(p, t) == i) {
                    set |= 1 << t;
                }
            }
            return set;
        }

        void setPlaces(int n) {
            if (n >= 0 && n <= MOST_PLACES) {
                places = n;
            }
        }

        boolean mayJoin(int a, int b) {
            return a != b && !isJoined(a, b) && sidesOf(a) < MOST_SIDES && sidesOf(b) < MOST_SIDES;
        }

        private boolean isJoined(int a, int b) {
            for (int r = 0; r < roads && r < MOST_ROADS; r++) {
                if (starts[r] == a && ends[r] == b || starts[r] == b && ends[r] == a) {
                    return true;
                }
            }
            return false;
        }

        void addRoad(int a, int b, int m) {
            if (roads >= 0 && roads < MOST_ROADS) {
                starts[roads] = a;
                ends[roads] = b;
                lengths[roads] = m;
                addSide(a, roads);
                addSide(b, roads);
                roads++;
            }
        }

        private void addSide(int p, int r) {
            if (hasPlace(p) && sides[p] >= 0 && sides[p] < MOST_SIDES) {
                sideRoads[p * MOST_SIDES + sides[p]] = r;
                sides[p]++;
            }
        }

        void addTravel(int a, int b, int c) {
            if (travels >= 0 && travels < MOST_TRAVELS) {
                goers[travels] = a;
                aims[travels] = b;
                heads[travels] = c;
                travels++;
            }
        }

        /** Once a land, so that no call has to look for ways again. */
        void survey() {
            startDistances();
            for (int over = 0; over < MOST_PLACES; over++) {
                shortenOver(over);
            }
            for (int p = 0; p < MOST_PLACES; p++) {
                for (int t = 0; t < MOST_PLACES; t++) {
                    trueArms[p * MOST_PLACES + t] = leastTrueArm(p, t);
                }
            }
            for (int k = 0; k < MOST_PLACES * MOST_PLACES; k++) {
                distances[k] = distances[k] >= TOO_FAR ? NONE : distances[k];
            }
        }

        private void startDistances() {
            for (int k = 0; k < MOST_PLACES * MOST_PLACES; k++) {
                distances[k] = k % (MOST_PLACES + 1) == 0 ? 0 : TOO_FAR;
            }
            for (int r = 0; r < roads; r++) {
                int a = roadStart(r);
                int b = roadEnd(r);
                if (hasPlace(a) && hasPlace(b)) {
                    distances[a * MOST_PLACES + b] = roadMiles(r);
                    distances[b * MOST_PLACES + a] = roadMiles(r);
                }
            }
        }

        private void shortenOver(int over) {
            if (over < 0 || over >= MOST_PLACES) {
                return;
            }
            for (int a = 0; a < MOST_PLACES; a++) {
                for (int b = 0; b < MOST_PLACES; b++) {
                    int there = distances[a * MOST_PLACES + over] + distances[over * MOST_PLACES + b];
                    distances[a * MOST_PLACES + b] = Math.min(distances[a * MOST_PLACES + b], there);
                }
            }
        }

        /** Sides rise as their roads do, so the first side that fits has the least road. */
        private int leastTrueArm(int p, int t) {
            if (p == t || !hasPlace(p) || !hasPlace(t) || fewestMiles(p, t) >= TOO_FAR) {
                return NONE;
            }
            for (int side = 0; side < sidesOf(p); side++) {
                int r = roadAtSide(p, side);
                if (roadMiles(r) + fewestMiles(beyondRoad(p, r), t) == fewestMiles(p, t)) {
                    return side;
                }
            }
            return NONE;
        }
    }

    /** How the posts stand now; where a set of posts is asked for as if right, nothing is changed for that. */
    private static final class Posts {
        private final Land land;
        private final int[] turns = new int[MOST_PLACES];
        private final int[] fallen = new int[MOST_PLACES];
        private final int[] told = new int[MOST_PLACES * MOST_PLACES];

        Posts(Land land) {
            this.land = land;
        }

        void become(Posts other) {
            System.arraycopy(other.turns, 0, turns, 0, MOST_PLACES);
            System.arraycopy(other.fallen, 0, fallen, 0, MOST_PLACES);
            System.arraycopy(other.told, 0, told, 0, MOST_PLACES * MOST_PLACES);
        }

        void setAllRight() {
            for (int p = 0; p < land.places(); p++) {
                setRight(p);
            }
        }

        void setRight(int p) {
            if (land.hasPlace(p)) {
                turns[p] = 0;
                fallen[p] = 0;
                for (int t = 0; t < MOST_PLACES; t++) {
                    told[p * MOST_PLACES + t] = land.fewestMiles(p, t);
                }
            }
        }

        boolean isRight(int p) {
            for (int t = 0; t < land.places(); t++) {
                if (paintedMiles(p, t) != land.fewestMiles(p, t)) {
                    return false;
                }
            }
            return !leadsAstray(p);
        }

        /** Paint alone never does: strangers go by the names. */
        private boolean leadsAstray(int p) {
            return turnOf(p) != 0 || fallenSet(p) != 0;
        }

        int turnOf(int p) {
            return land.hasPlace(p) ? turns[p] : 0;
        }

        int fallenSet(int p) {
            return land.hasPlace(p) ? fallen[p] : 0;
        }

        boolean hasFallen(int p, int arm) {
            return land.hasPlace(p) && isIn(fallen[p], arm);
        }

        int astraySet() {
            int set = 0;
            for (int p = 0; p < land.places(); p++) {
                if (leadsAstray(p)) {
                    set |= 1 << p;
                }
            }
            return set;
        }

        int turnedSet() {
            int set = 0;
            for (int p = 0; p < land.places(); p++) {
                if (turnOf(p) != 0) {
                    set |= 1 << p;
                }
            }
            return set;
        }

        void turnFurther(int p, int k) {
            if (land.hasPlace(p) && land.sidesOf(p) > 0) {
                turns[p] = Math.floorMod(turns[p] + k, land.sidesOf(p));
            }
        }

        void setFallen(int p, int arm, boolean is) {
            if (land.hasPlace(p) && land.hasSide(p, arm)) {
                fallen[p] = is ? fallen[p] | 1 << arm : fallen[p] & ~(1 << arm);
            }
        }

        void tellMiles(int p, int t, int m) {
            if (land.hasPlace(p) && land.hasPlace(t)) {
                told[p * MOST_PLACES + t] = m;
            }
        }

        private int paintedMiles(int p, int t) {
            return land.hasPlace(p) && land.hasPlace(t) ? told[p * MOST_PLACES + t] : NONE;
        }

        int milesTold(int p, int t) {
            return armThatTells(p, t, 0) == NONE ? NONE : paintedMiles(p, t);
        }

        int armThatTells(int p, int t, int asIfRight) {
            int arm = land.trueArm(p, t);
            return arm != NONE && hasFallen(p, arm) && !isIn(asIfRight, p) ? NONE : arm;
        }

        int sideOfArm(int p, int arm, int turn) {
            int sides = land.sidesOf(p);
            return sides > 0 ? Math.floorMod(arm + turn, sides) : NONE;
        }

        int roadToTake(int p, int t, int asIfRight) {
            int arm = armThatTells(p, t, asIfRight);
            if (arm == NONE) {
                return NONE;
            }
            return land.roadAtSide(p, sideOfArm(p, arm, isIn(asIfRight, p) ? 0 : turnOf(p)));
        }

        boolean quarrelsWithLand(int p, int t) {
            int here = milesTold(p, t);
            return here != NONE && here != land.fewestMiles(p, t);
        }

        boolean quarrelsOnTheWay(int p, int t) {
            int here = milesTold(p, t);
            if (here == NONE) {
                return false;
            }
            int r = land.roadAtSide(p, land.trueArm(p, t));
            // at t itself no arm tells t: that end quarrels with none
            int there = milesTold(land.beyondRoad(p, r), t);
            return there != NONE && here - there != land.roadMiles(r);
        }
    }

    /** One who goes by the arms alone; the way is kept until the next one goes. */
    private static final class Stranger {
        private final Land land;
        private final Posts posts;
        private final int[] way = new int[MOST_PLACES + 1];
        private int gone;
        private int miles;
        private int end;

        Stranger(Land land, Posts posts) {
            this.land = land;
            this.posts = posts;
        }

        int ending() {
            return end;
        }

        int milesGone() {
            return miles;
        }

        int roadsGone() {
            return gone;
        }

        int placeBehind(int roads) {
            return roads >= 0 && roads <= gone && roads <= MOST_PLACES ? way[roads] : NONE;
        }

        void goFromTo(int from, int to, int asIfRight) {
            way[0] = from;
            gone = 0;
            miles = 0;
            end = from == to ? COMES : 0;
            int been = 1 << from;
            int at = from;
            for (int k = 1; k <= MOST_PLACES && end == 0; k++) {
                int r = posts.roadToTake(at, to, asIfRight);
                if (r == NONE) {
                    end = LOST;
                } else {
                    at = land.beyondRoad(at, r);
                    way[k] = at;
                    gone = k;
                    miles += land.roadMiles(r);
                    end = at == to ? COMES : isIn(been, at) ? ROUND : 0;
                    been |= 1 << at;
                }
            }
        }
    }

    /** A day of all travels: what it costs, what would help, which arms are used. */
    private static final class Day {
        private final Land land;
        private final Stranger stranger;
        private final int[] used = new int[MOST_PLACES];

        Day(Land land, Stranger stranger) {
            this.land = land;
            this.stranger = stranger;
        }

        int costIfRight(int set) {
            int cost = 0;
            for (int g = 0; g < land.travels(); g++) {
                int from = land.travelFrom(g);
                int to = land.travelTo(g);
                stranger.goFromTo(from, to, set);
                boolean comes = stranger.ending() == COMES;
                int each = comes ? stranger.milesGone() - land.fewestMiles(from, to) : NOT_COME_COST;
                cost += land.travelHeads(g) * each;
            }
            return cost;
        }

        boolean allComeIfRight(int set) {
            for (int g = 0; g < land.travels(); g++) {
                int from = land.travelFrom(g);
                int to = land.travelTo(g);
                if (land.fewestMiles(from, to) != NONE) {
                    stranger.goFromTo(from, to, set);
                    if (stranger.ending() != COMES) {
                        return false;
                    }
                }
            }
            return true;
        }

        void markNeededArms() {
            for (int p = 0; p < MOST_PLACES; p++) {
                used[p] = 0;
            }
            for (int g = 0; g < land.travels(); g++) {
                int to = land.travelTo(g);
                stranger.goFromTo(land.travelFrom(g), to, 0);
                if (stranger.ending() == COMES) {
                    markArmsOfTheWay(to);
                }
            }
        }

        private void markArmsOfTheWay(int to) {
            for (int k = 0; k < stranger.roadsGone(); k++) {
                int p = stranger.placeBehind(k);
                int arm = land.trueArm(p, to);
                if (land.hasPlace(p) && arm != NONE) {
                    used[p] |= 1 << arm;
                }
            }
        }

        int neededArms(int p) {
            return land.hasPlace(p) ? used[p] : 0;
        }
    }

    /** A night on which each post may be turned. A way that comes meets no post twice, so shares may be followed way by way. */
    private static final class Night {
        private final Land land;
        private final Posts posts;
        private int to;
        private int odds;

        Night(Land land, Posts posts) {
            this.land = land;
            this.posts = posts;
        }

        int oddsToCome(int from, int aim, int o) {
            to = aim;
            odds = o;
            return (int) shareThatComes(from, 0, BILLION, 0);
        }

        private long shareThatComes(int at, int been, long share, int depth) {
            if (at == to) {
                return share;
            }
            int arm = posts.armThatTells(at, to, 0);
            if (share == 0 || depth > MOST_PLACES || isIn(been, at) || arm == NONE) {
                return 0;
            }
            return shareByTurns(at, been | 1 << at, share, depth);
        }

        private long shareByTurns(int at, int been, long share, int depth) {
            int sides = land.sidesOf(at);
            long asItIs = sides == 1 ? share : share * (HUNDRED - odds) / HUNDRED;
            long left = share - asItIs;
            int turnsLeft = sides - 1;
            long comes = 0;
            for (int turn = 0; turn < sides; turn++) {
                long part = asItIs;
                if (turn != posts.turnOf(at)) {
                    part = turnsLeft > 0 ? left / turnsLeft : left;
                    left -= part;
                    turnsLeft--;
                }
                int side = posts.sideOfArm(at, land.trueArm(at, to), turn);
                int next = land.beyondRoad(at, land.roadAtSide(at, side));
                comes += shareThatComes(next, been, part, depth + 1);
            }
            return comes;
        }
    }

    /** What strangers told that they saw. */
    private static final class Sightings {
        private final Land land;
        private final int[] posts = new int[MOST_SEEN];
        private final int[] names = new int[MOST_SEEN];
        private final int[] towards = new int[MOST_SEEN];
        private int count;

        Sightings(Land land) {
            this.land = land;
        }

        int size() {
            return count;
        }

        boolean isFull() {
            return count >= MOST_SEEN;
        }

        void clear() {
            count = 0;
        }

        void append(int p, int t, int q) {
            if (count >= 0 && count < MOST_SEEN) {
                posts[count] = p;
                names[count] = t;
                towards[count] = q;
                count++;
            }
        }

        int fittingTurns(int p) {
            int sides = land.sidesOf(p);
            if (sides == 0) {
                return 1;
            }
            int set = (1 << sides) - 1;
            for (int k = 0; k < count && k < MOST_SEEN; k++) {
                if (posts[k] == p) {
                    int turn = land.sideTowards(p, towards[k]) - land.trueArm(p, names[k]);
                    set &= 1 << Math.floorMod(turn, sides);
                }
            }
            return set;
        }
    }

    /** Walks that were written down, to be judged by how the posts stand later. */
    private static final class Book {
        private final int[] starts = new int[MOST_WALKS];
        private final int[] aims = new int[MOST_WALKS];
        private final int[] endings = new int[MOST_WALKS];
        private final int[] lengths = new int[MOST_WALKS];
        private int count;

        int size() {
            return count;
        }

        boolean isFull() {
            return count >= MOST_WALKS;
        }

        void clear() {
            count = 0;
        }

        void append(int a, int t, int end, int miles) {
            if (count >= 0 && count < MOST_WALKS) {
                starts[count] = a;
                aims[count] = t;
                endings[count] = end;
                lengths[count] = miles;
                count++;
            }
        }

        int firstWrong(Stranger stranger) {
            for (int k = 0; k < count && k < MOST_WALKS; k++) {
                stranger.goFromTo(starts[k], aims[k], 0);
                if (stranger.ending() != endings[k] || stranger.milesGone() != lengths[k]) {
                    return k;
                }
            }
            return NONE;
        }
    }

    /** The seed, and the draws that come of it. */
    private static final class Draws {
        private int now;

        int state() {
            return now;
        }

        void startFrom(int v) {
            now = v;
        }

        int next(int n) {
            now = (int) (now * 1103515245L + 12345L & MOST_SEED);
            return n > 0 ? now / 65536 % n : 0;
        }
    }

    /** Posts and seed as they once were. */
    private static final class Image {
        private final Posts kept;
        private int drawn;
        private boolean is;

        Image(Land land) {
            kept = new Posts(land);
        }

        boolean isKept() {
            return is;
        }

        void drop() {
            is = false;
        }

        void take(Posts posts, Draws draws) {
            kept.become(posts);
            drawn = draws.state();
            is = true;
        }

        void giveBack(Posts posts, Draws draws) {
            posts.become(kept);
            draws.startFrom(drawn);
        }
    }
}
