/**
 * A ship that is brought alongside a quay by engine, wheel and lines, second by second.
 * Everything a call needs is made once with the object and used again by every call.
 */
public final class AlongsideLines {
    public static final int NONE = -1, UNKNOWN = -1000000001, OUTSIDE = -1000000002, NOT = -1000000003, FULL = -1000000004;

    private static final int LOG_MOST = 60;
    private static final int IMAGES = 2;
    private static final int SECONDS_MOST = 600;
    private static final int SEARCH_MOST = 300;

    private final Text text = new Text();
    private final Reader reader = new Reader();
    private final Quay quay = new Quay();
    private final Plan plan = new Plan();
    private final Tide tide = new Tide();
    private final Ship ship = new Ship();
    private final Ship[] images = {new Ship(), new Ship()};
    private final boolean[] kept = new boolean[IMAGES];
    private final int[] logged = new int[LOG_MOST];
    private final Ship trial = new Ship();
    private final Search search = new Search();
    private final Night night = new Night();
    private final LettingGo lettingGo = new LettingGo();
    private int logSize;
    private int faultAt = NONE;

    public AlongsideLines() {
        quay.becomeUntold();
        ship.becomeFirst();
    }

    // ---- texts

    public int feed(int n, long bytes) {
        if (n < 1 || n > 8) {
            return OUTSIDE;
        }
        if (text.size + n > Text.MOST) {
            return FULL;
        }
        text.append(n, bytes);
        return text.size;
    }

    public int quay() {
        if (!readText(Reader.QUAY)) {
            return -10 - reader.fault;
        }
        quay.copyFrom(reader.quayDraft);
        ship.becomeFirst();
        forgetImages();
        return quay.posts;
    }

    public int plan() {
        if (!readText(Reader.PLAN)) {
            return -10 - reader.fault;
        }
        plan.copyFrom(reader.planDraft);
        return plan.size;
    }

    public int tide() {
        if (!readText(Reader.TIDE)) {
            return -10 - reader.fault;
        }
        tide.copyFrom(reader.tideDraft);
        return tide.size;
    }

    public int fault() {
        return faultAt;
    }

    public int told(int what) {
        if (what >= 0 && what < Quay.NUMBERS) {
            return quay.number(what);
        }
        switch (what) {
            case 13: return quay.posts;
            case 14: return plan.size;
            case 15: return tide.size;
            case 16: return text.size;
            default: return OUTSIDE;
        }
    }

    public int post(int k, int what) {
        if (!quay.hasPost(k)) {
            return UNKNOWN;
        }
        switch (what) {
            case 0: return quay.postPlace(k);
            case 1: return quay.postStrength(k);
            default: return OUTSIDE;
        }
    }

    // ---- the ship

    public int put(int what, int v) {
        if (!Ship.mayBePut(what, v)) {
            return OUTSIDE;
        }
        int was = ship.reading(what);
        ship.become(what, v);
        return was;
    }

    public long now(int what) {
        if (what < 0 || what > 16) {
            return OUTSIDE;
        }
        return readingOf(ship, what);
    }

    public int go(int n) {
        if (n < 1 || n > SECONDS_MOST) {
            return OUTSIDE;
        }
        int parted = 0;
        for (int i = 0; i < n; i++) {
            parted += ship.passSecond(quay);
        }
        return parted;
    }

    public int follow(int n) {
        if (n < 1 || n > SECONDS_MOST) {
            return OUTSIDE;
        }
        return ship.passByPlan(quay, plan, n);
    }

    // ---- lines

    public int fast(int l, int p, int post, int n) {
        if (!Lines.isNumber(l) || !quay.hasPost(post)) {
            return UNKNOWN;
        }
        if (!Ship.isPlace(p) || n < NONE || n > Lines.LENGTH_MOST) {
            return OUTSIDE;
        }
        if (ship.lines.isFast(l)) {
            return NOT;
        }
        int length = n == NONE ? ship.distance(quay, p, post) : n;
        ship.lines.makeFast(l, p, post, length);
        return length;
    }

    public int heave(int l, int p, int post) {
        if (!Lines.isNumber(l) || !quay.hasPost(post)) {
            return UNKNOWN;
        }
        if (!Ship.isPlace(p)) {
            return OUTSIDE;
        }
        if (ship.lines.isFast(l)) {
            return NOT;
        }
        return ship.heaveLine(quay, l, p, post) ? 1 : 0;
    }

    public int odds(int p, int post) {
        if (!quay.hasPost(post)) {
            return UNKNOWN;
        }
        if (!Ship.isPlace(p)) {
            return OUTSIDE;
        }
        return ship.heaveOdds(quay, p, post);
    }

    public int veer(int l, int n) {
        if (!ship.lines.isFast(l)) {
            return UNKNOWN;
        }
        if (n < 0 || n > Lines.LENGTH_MOST) {
            return OUTSIDE;
        }
        int was = ship.lines.length[l];
        ship.lines.length[l] = n;
        return was;
    }

    public int cast(int l) {
        if (!ship.lines.isFast(l)) {
            return UNKNOWN;
        }
        ship.lines.fast[l] = false;
        return ship.lines.length[l];
    }

    public int line(int l, int what) {
        if (!ship.lines.isFast(l)) {
            return UNKNOWN;
        }
        switch (what) {
            case 0: return ship.lines.place[l];
            case 1: return ship.lines.post[l];
            case 2: return ship.lines.length[l];
            case 3: return ship.lineDistance(quay, l);
            case 4: return Ship.pull(quay, ship.lineDistance(quay, l), ship.lines.length[l]);
            default: return OUTSIDE;
        }
    }

    public int does(int p, int post) {
        if (!quay.hasPost(post)) {
            return UNKNOWN;
        }
        if (!Ship.isPlace(p)) {
            return OUTSIDE;
        }
        return ship.effectOf(quay, p, post);
    }

    // ---- tried

    public long tried(int n, int what) {
        if (n < 1 || n > SECONDS_MOST || !isTriedReading(what)) {
            return OUTSIDE;
        }
        trial.copyFrom(ship);
        trial.passByPlan(quay, plan, n);
        return what == 17 ? trial.lines.count() : readingOf(trial, what);
    }

    public int astern() {
        return search.leastAstern(quay, ship);
    }

    public int off() {
        return search.greatestOff(quay, ship);
    }

    public int wind(int n) {
        return isSearchLength(n) ? search.greatestWind(quay, ship, plan, n) : OUTSIDE;
    }

    public int gap(int n) {
        return isSearchLength(n) ? search.leastGap(quay, ship, plan, n) : OUTSIDE;
    }

    public int tug(int n) {
        return isSearchLength(n) ? search.leastTug(quay, ship, plan, n) : OUTSIDE;
    }

    // ---- nights, letting go

    public int needs(int l, int hour, int h) {
        if (!ship.lines.isFast(l) || !tide.hasHour(hour)) {
            return UNKNOWN;
        }
        if (!Night.isDeck(h)) {
            return OUTSIDE;
        }
        return Night.lengthNeeded(ship.lineAlong(quay, l), h, tide.heightAt(hour));
    }

    public int tended(int l, int h, int what) {
        if (!ship.lines.isFast(l)) {
            return UNKNOWN;
        }
        if (!Night.isDeck(h)) {
            return OUTSIDE;
        }
        night.tend(tide, ship.lineAlong(quay, l), h);
        return what == NONE ? night.size : night.hourOf(what);
    }

    public int wakes(int h) {
        if (!Night.isDeck(h)) {
            return OUTSIDE;
        }
        int hours = 0;
        for (int l = 0; l < Lines.MOST; l++) {
            if (ship.lines.isFast(l)) {
                night.tend(tide, ship.lineAlong(quay, l), h);
                hours |= night.hoursAsSet();
            }
        }
        return hours;
    }

    public int order(int j) {
        if (ship.lines.count() == 0) {
            return NOT;
        }
        lettingGo.weigh(quay, ship);
        return j == NONE ? lettingGo.greatestStrain() : lettingGo.lineAt(j);
    }

    // ---- logs, draws, images

    public int log(int x) {
        if (x < -99999 || x > 99999) {
            return OUTSIDE;
        }
        if (logSize >= LOG_MOST) {
            return FULL;
        }
        logged[logSize] = x;
        logSize++;
        return logSize;
    }

    public int clear() {
        int had = logSize;
        logSize = 0;
        return had;
    }

    public int judge(int e) {
        if (e < 0 || e > 9999) {
            return OUTSIDE;
        }
        trial.copyFrom(ship);
        int next = 0;
        for (int k = 0; k < logSize && k < LOG_MOST; k++) {
            if (Math.abs(trial.x - logged[k]) > e) {
                return k;
            }
            next = plan.steer(trial, next, k);
            trial.passSecond(quay);
        }
        return NONE;
    }

    public int seed(int v) {
        if (v < 0) {
            return OUTSIDE;
        }
        int was = ship.draws;
        ship.draws = v;
        return was;
    }

    public int keep(int i) {
        if (i < 0 || i >= IMAGES) {
            return UNKNOWN;
        }
        images[i].copyFrom(ship);
        kept[i] = true;
        return 1;
    }

    public int goBack(int i) {
        if (i < 0 || i >= IMAGES) {
            return UNKNOWN;
        }
        if (!kept[i]) {
            return NOT;
        }
        ship.copyFrom(images[i]);
        return 1;
    }

    // ---- what several calls share

    private boolean readText(int kind) {
        reader.read(text, kind);
        text.size = 0;
        faultAt = reader.faultAt;
        return reader.fault == 0;
    }

    private void forgetImages() {
        for (int i = 0; i < IMAGES; i++) {
            kept[i] = false;
        }
    }

    private static boolean isSearchLength(int n) {
        return n >= 1 && n <= SEARCH_MOST;
    }

    private static boolean isTriedReading(int what) {
        return what >= 0 && what <= 5 || what >= 9 && what <= 11 || what == 15 || what == 17;
    }

    private long readingOf(Ship of, int what) {
        switch (what) {
            case 10: return of.harm;
            case 13: return of.wayOff(quay.arm(Ship.BOW));
            case 14: return of.wayOff(quay.arm(Ship.STERN));
            case 15: return of.isSafe(quay) ? 1 : 0;
            default: return of.reading(what);
        }
    }

    private static int held(int v, int least, int most) {
        return Math.max(least, Math.min(most, v));
    }

    /** The whole root of the squares of two ways together. */
    private static int rootOfSquares(int along, int across) {
        long squares = (long) along * along + (long) across * across;
        // The ways' sum is never below the root and near it: a few halvings reach it from above.
        long root = Math.abs((long) along) + Math.abs((long) across);
        for (int i = 0; i < 64 && root > 0; i++) {
            long next = (root + squares / root) / 2;
            if (next >= root) {
                break;
            }
            root = next;
        }
        return (int) root;
    }

    /** The bytes that were fed and not yet read. */
    private static final class Text {
        static final int MOST = 300;
        final int[] bytes = new int[MOST];
        int size;

        void append(int n, long fed) {
            for (int i = n - 1; i >= 0 && size < MOST; i--) {
                bytes[size] = (int) (fed >> (8 * i)) & 255;
                size++;
            }
        }

        /** The byte there; 0, which stands nowhere, behind the end. */
        int byteAt(int at) {
            return at >= 0 && at < size && at < MOST ? bytes[at] : 0;
        }

        private static boolean isLetter(int b) {
            return b >= 'a' && b <= 'z';
        }

        private static boolean isFigure(int b) {
            return b >= '0' && b <= '9';
        }

        int behindBlanks(int from) {
            int at = from;
            while (at < size && byteAt(at) == ' ') {
                at++;
            }
            return at;
        }

        int behindLetters(int from) {
            int at = from;
            while (at < size && isLetter(byteAt(at))) {
                at++;
            }
            return at;
        }

        int behindFigures(int from) {
            int at = from;
            while (at < size && isFigure(byteAt(at))) {
                at++;
            }
            return at;
        }

        boolean isWord(int from, int to, String word) {
            if (to - from != word.length()) {
                return false;
            }
            for (int i = 0; i < word.length(); i++) {
                if (byteAt(from + i) != word.charAt(i)) {
                    return false;
                }
            }
            return true;
        }
    }

    /** Reads a text into drafts, clause by clause, up to the first fault. */
    private static final class Reader {
        static final int QUAY = 0, PLAN = 1, TIDE = 2;

        private static final int CLAUSES = 11, GAP = 0, POST = 1, AT = 9, HOUR = 10;
        private static final int NUMBERS_MOST = 3, FIGURES_MOST = 4;
        // By clause: gap, post, ship, screw, wheel, slow, wind, give, fender, at, hour.
        private static final int[] NUMBERS_OF = {2, 2, 2, 2, 1, 3, 1, 1, 1, 3, 1};
        private static final int[] TIMES_MOST = {1, 12, 1, 1, 1, 1, 1, 1, 1, 20, 24};
        private static final int[] FIRST_TOLD = {0, -1, 2, 4, 6, 7, 10, 11, 12, -1, -1};
        // By clause and number, three to a clause: between which bounds it may be.
        private static final int[] LEAST = {
            0, 0, 0, // gap
            0, 1, 0, // post
            500, 1, 0, // ship
            0, 0, 0, // screw
            0, 0, 0, // wheel
            0, 0, 0, // slow
            0, 0, 0, // wind
            1, 0, 0, // give
            0, 0, 0, // fender
            0, 0, 0, // at
            0, 0, 0 // hour
        };
        private static final int[] MOST = {
            9999, 9999, 0, // gap
            9999, 999, 0, // post
            9000, 99, 0, // ship
            50, 99, 0, // screw
            99, 0, 0, // wheel
            50, 50, 50, // slow
            99, 0, 0, // wind
            99, 0, 0, // give
            999, 0, 0, // fender
            999, 6, 6, // at
            999, 0, 0 // hour
        };
        // By kind of text: which clauses it may have.
        private static final int[] FIRST_CLAUSE = {0, 9, 10};
        private static final int[] LAST_CLAUSE = {8, 9, 10};

        final Quay quayDraft = new Quay();
        final Plan planDraft = new Plan();
        final Tide tideDraft = new Tide();
        int fault;
        int faultAt;
        private final int[] times = new int[CLAUSES];
        private final int[] row = new int[NUMBERS_MOST];
        private int at;

        void read(Text text, int kind) {
            fault = 0;
            faultAt = NONE;
            at = 0;
            for (int c = 0; c < CLAUSES; c++) {
                times[c] = 0;
            }
            quayDraft.becomeUntold();
            planDraft.size = 0;
            tideDraft.size = 0;
            for (int i = 0; i <= Text.MOST && fault == 0; i++) {
                at = text.behindBlanks(at);
                if (at >= text.size) {
                    break;
                }
                readClause(text, kind);
            }
        }

        private void readClause(Text text, int kind) {
            int start = at;
            int end = text.behindLetters(start);
            int clause = clauseOf(text, kind, start, end);
            if (clause == NONE) {
                fail(1, start);
                return;
            }
            if (times[clause] >= TIMES_MOST[clause]) {
                fail(3, start);
                return;
            }
            at = end;
            for (int i = 0; i < NUMBERS_OF[clause] && fault == 0; i++) {
                readNumber(text, clause, i);
            }
            if (fault == 0) {
                readEnd(text, clause);
            }
        }

        private void readNumber(Text text, int clause, int i) {
            int start = text.behindBlanks(at);
            int end = text.behindFigures(start);
            if (end == start) {
                fail(1, start);
                return;
            }
            int value = 0;
            for (int k = start; k < end && k < start + FIGURES_MOST; k++) {
                value = value * 10 + text.byteAt(k) - '0';
            }
            if (end - start > FIGURES_MOST || isOutOfBounds(clause, i, value)) {
                fail(2, start);
            } else if (i == 0 && isTakenAlready(clause, value)) {
                fail(4, start);
            } else {
                row[i] = value;
                at = end;
            }
        }

        private void readEnd(Text text, int clause) {
            at = text.behindBlanks(at);
            if (text.byteAt(at) != ';') {
                fail(1, at);
                return;
            }
            at++;
            store(clause);
            times[clause]++;
        }

        private boolean isOutOfBounds(int clause, int i, int value) {
            int k = clause * NUMBERS_MOST + i;
            return value < LEAST[k] || value > MOST[k] || clause == GAP && i == 1 && value <= row[0];
        }

        private boolean isTakenAlready(int clause, int value) {
            return clause == POST && quayDraft.hasPostAt(value) || clause == AT && !planDraft.isBehind(value);
        }

        private void store(int clause) {
            if (clause == POST) {
                quayDraft.addPost(row[0], row[1]);
            } else if (clause == AT) {
                planDraft.add(row[0], row[1] - 3, row[2] - 3);
            } else if (clause == HOUR) {
                tideDraft.add(row[0]);
            } else {
                for (int i = 0; i < NUMBERS_OF[clause]; i++) {
                    quayDraft.become(FIRST_TOLD[clause] + i, row[i]);
                }
            }
        }

        private void fail(int number, int place) {
            fault = number;
            faultAt = place;
        }

        private static int clauseOf(Text text, int kind, int from, int to) {
            for (int c = FIRST_CLAUSE[kind]; c <= LAST_CLAUSE[kind]; c++) {
                if (text.isWord(from, to, wordOf(c))) {
                    return c;
                }
            }
            return NONE;
        }

        private static String wordOf(int clause) {
            switch (clause) {
                case 0: return "gap";
                case 1: return "post";
                case 2: return "ship";
                case 3: return "screw";
                case 4: return "wheel";
                case 5: return "slow";
                case 6: return "wind";
                case 7: return "give";
                case 8: return "fender";
                case 9: return "at";
                default: return "hour";
            }
        }
    }

    /** What is told of the quay and the ship; its numbers are counted as told() counts them. */
    private static final class Quay {
        static final int NUMBERS = 13;
        private static final int POSTS_MOST = 12;
        private static final int[] UNTOLD = {0, 9000, 5000, 30, 8, 10, 20, 2, 10, 10, 2, 10, 10};

        int from, to, length, weight, push, walk, wheelForce;
        int slowAhead, slowSideways, slowTurning, windForce, give, fender;
        int posts;
        private final int[] places = new int[POSTS_MOST];
        private final int[] strengths = new int[POSTS_MOST];

        void becomeUntold() {
            for (int what = 0; what < NUMBERS; what++) {
                become(what, UNTOLD[what]);
            }
            posts = 0;
        }

        void copyFrom(Quay other) {
            for (int what = 0; what < NUMBERS; what++) {
                become(what, other.number(what));
            }
            System.arraycopy(other.places, 0, places, 0, POSTS_MOST);
            System.arraycopy(other.strengths, 0, strengths, 0, POSTS_MOST);
            posts = other.posts;
        }

        int number(int what) {
            switch (what) {
                case 0: return from;
                case 1: return to;
                case 2: return length;
                case 3: return weight;
                case 4: return push;
                case 5: return walk;
                case 6: return wheelForce;
                case 7: return slowAhead;
                case 8: return slowSideways;
                case 9: return slowTurning;
                case 10: return windForce;
                case 11: return give;
                default: return fender;
            }
        }

        void become(int what, int value) {
            switch (what) {
                case 0: from = value; break;
                case 1: to = value; break;
                case 2: length = value; break;
                case 3: weight = value; break;
                case 4: push = value; break;
                case 5: walk = value; break;
                case 6: wheelForce = value; break;
                case 7: slowAhead = value; break;
                case 8: slowSideways = value; break;
                case 9: slowTurning = value; break;
                case 10: windForce = value; break;
                case 11: give = value; break;
                default: fender = value; break;
            }
        }

        /** How far a place of the ship is ahead of her middle. */
        int arm(int p) {
            return length / 2 * p / 100;
        }

        boolean hasPost(int k) {
            return k >= 0 && k < posts && k < POSTS_MOST;
        }

        int postPlace(int k) {
            return k >= 0 && k < posts && k < POSTS_MOST ? places[k] : 0;
        }

        int postStrength(int k) {
            return k >= 0 && k < posts && k < POSTS_MOST ? strengths[k] : 0;
        }

        boolean hasPostAt(int place) {
            for (int k = 0; k < posts && k < POSTS_MOST; k++) {
                if (places[k] == place) {
                    return true;
                }
            }
            return false;
        }

        void addPost(int place, int strength) {
            if (posts >= 0 && posts < POSTS_MOST) {
                places[posts] = place;
                strengths[posts] = strength;
                posts++;
            }
        }
    }

    /** Engine and wheel by seconds. */
    private static final class Plan {
        private static final int MOST = 20;

        int size;
        private final int[] seconds = new int[MOST];
        private final int[] engines = new int[MOST];
        private final int[] wheels = new int[MOST];

        void copyFrom(Plan other) {
            System.arraycopy(other.seconds, 0, seconds, 0, MOST);
            System.arraycopy(other.engines, 0, engines, 0, MOST);
            System.arraycopy(other.wheels, 0, wheels, 0, MOST);
            size = other.size;
        }

        boolean isBehind(int second) {
            return size < 1 || size > MOST || second > seconds[size - 1];
        }

        void add(int second, int engine, int wheel) {
            if (size >= 0 && size < MOST) {
                seconds[size] = second;
                engines[size] = engine;
                wheels[size] = wheel;
                size++;
            }
        }

        /** Gives the ship what clause next tells, if its second begins: the clause that is next then. */
        int steer(Ship ship, int next, int second) {
            if (next < 0 || next >= size || next >= MOST || seconds[next] != second) {
                return next;
            }
            ship.engine = engines[next];
            ship.wheel = wheels[next];
            return next + 1;
        }
    }

    /** Heights of the water by hours. */
    private static final class Tide {
        private static final int MOST = 24;

        int size;
        private final int[] heights = new int[MOST];

        void copyFrom(Tide other) {
            System.arraycopy(other.heights, 0, heights, 0, MOST);
            size = other.size;
        }

        boolean hasHour(int hour) {
            return hour >= 0 && hour < size && hour < MOST;
        }

        int heightAt(int hour) {
            return hasHour(hour) ? heights[hour] : 0;
        }

        void add(int height) {
            if (size >= 0 && size < MOST) {
                heights[size] = height;
                size++;
            }
        }
    }

    /** The lines that are fast: from which place of the ship, to which post, how long. */
    private static final class Lines {
        static final int MOST = 6, LENGTH_MOST = 9999;

        final boolean[] fast = new boolean[MOST];
        final int[] place = new int[MOST];
        final int[] post = new int[MOST];
        final int[] length = new int[MOST];

        static boolean isNumber(int l) {
            return l >= 0 && l < MOST;
        }

        boolean isFast(int l) {
            return l >= 0 && l < MOST && fast[l];
        }

        int count() {
            int count = 0;
            for (int l = 0; l < MOST; l++) {
                if (fast[l]) {
                    count++;
                }
            }
            return count;
        }

        void letAllGo() {
            for (int l = 0; l < MOST; l++) {
                fast[l] = false;
            }
        }

        void makeFast(int l, int p, int toPost, int n) {
            if (l >= 0 && l < MOST) {
                fast[l] = true;
                place[l] = p;
                post[l] = toPost;
                length[l] = n;
            }
        }

        void copyFrom(Lines other) {
            for (int l = 0; l < MOST; l++) {
                fast[l] = other.fast[l];
                place[l] = other.place[l];
                post[l] = other.post[l];
                length[l] = other.length[l];
            }
        }
    }

    /** The ship with all that an image keeps, and how a second goes by for her. */
    private static final class Ship {
        static final int BOW = 100, STERN = -100;
        private static final int OFF_MOST = 30000, ANGLE_MOST = 45000, PACE_MOST = 50000, TURN_MOST = 20000;
        // Thousandths of a degree in a radian: what an angle is divided by to become a slope.
        private static final int SLOPE = 57296;
        // What put() takes: X, Y, ANGLE, PACE, DRIFT, TURN, E, R, the tug.
        private static final int PUTS = 9;
        private static final int[] PUT_LEAST = {0, 0, -45000, -20000, -20000, -5000, -3, -3, 0};
        private static final int[] PUT_MOST = {9999, 30000, 45000, 20000, 20000, 5000, 3, 3, 99};

        int x, y, angle, pace, drift, turn, engine, wheel, tugForce;
        int seconds, knocks, fell, draws;
        long harm;
        final Lines lines = new Lines();
        // What a second's forces add to PACE, DRIFT and TURN, summed before any of them changes.
        private int paceGain, driftGain, turnGain;

        static boolean mayBePut(int what, int v) {
            return what >= 0 && what < PUTS && v >= PUT_LEAST[what] && v <= PUT_MOST[what];
        }

        static boolean isPlace(int p) {
            return p >= STERN && p <= BOW;
        }

        /** As on a new quay; the seed of the draws stays. */
        void becomeFirst() {
            for (int what = 0; what < PUTS; what++) {
                become(what, 0);
            }
            x = 4500;
            y = 3000;
            seconds = 0;
            knocks = 0;
            fell = 0;
            harm = 0;
            lines.letAllGo();
        }

        void copyFrom(Ship other) {
            for (int what = 0; what < PUTS; what++) {
                become(what, other.reading(what));
            }
            seconds = other.seconds;
            knocks = other.knocks;
            fell = other.fell;
            draws = other.draws;
            harm = other.harm;
            lines.copyFrom(other.lines);
        }

        void become(int what, int v) {
            switch (what) {
                case 0: x = v; break;
                case 1: y = v; break;
                case 2: angle = v; break;
                case 3: pace = v; break;
                case 4: drift = v; break;
                case 5: turn = v; break;
                case 6: engine = v; break;
                case 7: wheel = v; break;
                default: tugForce = v; break;
            }
        }

        /** What now() tells that needs no quay and fits an int. */
        int reading(int what) {
            switch (what) {
                case 0: return x;
                case 1: return y;
                case 2: return angle;
                case 3: return pace;
                case 4: return drift;
                case 5: return turn;
                case 6: return engine;
                case 7: return wheel;
                case 8: return tugForce;
                case 9: return seconds;
                case 11: return knocks;
                case 12: return fell;
                default: return lines.count();
            }
        }

        // -- places and lines

        /** How far a place is off the quay; below 0 it would be in the quay. */
        private int unheldOff(int arm) {
            return y - arm * angle / SLOPE;
        }

        int wayOff(int arm) {
            return Math.max(0, unheldOff(arm));
        }

        int wayAlong(Quay quay, int p, int post) {
            return quay.postPlace(post) - (x + quay.arm(p));
        }

        int distance(Quay quay, int p, int post) {
            return rootOfSquares(wayAlong(quay, p, post), wayOff(quay.arm(p)));
        }

        static int pull(Quay quay, int distance, int length) {
            return Math.max(0, (distance - length) * quay.give / 10);
        }

        int lineAlong(Quay quay, int l) {
            return lines.isFast(l) ? wayAlong(quay, lines.place[l], lines.post[l]) : 0;
        }

        int lineDistance(Quay quay, int l) {
            return lines.isFast(l) ? distance(quay, lines.place[l], lines.post[l]) : 0;
        }

        int heaveOdds(Quay quay, int p, int post) {
            return Math.max(0, 100 - distance(quay, p, post) / 50);
        }

        boolean heaveLine(Quay quay, int l, int p, int post) {
            if (drawOfHundred() < heaveOdds(quay, p, post)) {
                lines.makeFast(l, p, post, distance(quay, p, post));
                return true;
            }
            fell++;
            return false;
        }

        private int drawOfHundred() {
            draws = (int) ((draws * 1103515245L + 12345L) & 2147483647L);
            return draws / 65536 % 100;
        }

        int effectOf(Quay quay, int p, int post) {
            int along = wayAlong(quay, p, post);
            int set = along > 0 ? 1 : along < 0 ? 2 : 0;
            if (wayOff(quay.arm(p)) > 0) {
                set |= 4;
                set |= p > 0 ? 8 : p < 0 ? 16 : 0;
            }
            return set;
        }

        // -- a second

        int passByPlan(Quay quay, Plan plan, int n) {
            int parted = 0;
            int next = 0;
            for (int i = 0; i < n; i++) {
                next = plan.steer(this, next, i);
                parted += passSecond(quay);
            }
            return parted;
        }

        /** A second goes by: how many lines parted. */
        int passSecond(Quay quay) {
            gainByEngineAndWeather(quay);
            int parted = 0;
            for (int l = 0; l < Lines.MOST; l++) {
                if (lines.fast[l] && !gainByLine(quay, l)) {
                    lines.fast[l] = false;
                    parted++;
                }
            }
            move();
            knock(quay, quay.arm(BOW));
            knock(quay, quay.arm(STERN));
            stopAtGap(quay);
            if (y > OFF_MOST) {
                y = OFF_MOST;
                drift = Math.max(0, drift);
            }
            return parted;
        }

        private void gainByEngineAndWeather(Quay quay) {
            int weight = Math.max(1, quay.weight);
            paceGain = engine * quay.push - pace * quay.slowAhead / 100;
            driftGain = tugForce * 10 / weight - quay.windForce - drift * quay.slowSideways / 100;
            turnGain = wheel * pace / 100 * quay.wheelForce / weight - turn * quay.slowTurning / 100;
            if (engine < 0) {
                turnGain += engine * quay.walk / weight;
            }
        }

        /** Adds what a line does to her; false: it parts instead. */
        private boolean gainByLine(Quay quay, int l) {
            int arm = quay.arm(lines.place[l]);
            int along = quay.postPlace(lines.post[l]) - (x + arm);
            int across = wayOff(arm);
            int distance = rootOfSquares(along, across);
            int pull = pull(quay, distance, lines.length[l]);
            if (pull > quay.postStrength(lines.post[l])) {
                return false;
            }
            int weight = Math.max(1, quay.weight);
            int divisor = Math.max(1, distance);
            int inward = pull * across / divisor;
            paceGain += pull * along / divisor * 10 / weight;
            driftGain += inward * 10 / weight;
            turnGain += inward * arm / weight / 10;
            return true;
        }

        private void move() {
            pace = held(pace + paceGain, -PACE_MOST, PACE_MOST);
            drift = held(drift + driftGain, -PACE_MOST, PACE_MOST);
            turn = held(turn + turnGain, -TURN_MOST, TURN_MOST);
            x += pace / 100;
            y -= drift / 100;
            y -= pace / 100 * angle / SLOPE;
            angle = held(angle + turn, -ANGLE_MOST, ANGLE_MOST);
            seconds++;
        }

        private void knock(Quay quay, int arm) {
            int beyond = -unheldOff(arm);
            if (beyond <= 0) {
                return;
            }
            // PACE times ANGLE is more than an int holds.
            long ahead = (long) pace * angle / SLOPE;
            long strike = (drift + ahead + turn * arm / 573) / 100;
            if (strike > quay.fender) {
                knocks++;
                addHarm(quay, strike);
            }
            if (strike > 0) {
                drift = 0;
                turn = -(turn / 3);
            }
            y += beyond;
        }

        private void stopAtGap(Quay quay) {
            int beyond = x + quay.arm(BOW) - quay.to;
            if (beyond > 0) {
                if (pace / 100 > 0) {
                    addHarm(quay, pace / 100);
                }
                pace = 0;
                x -= beyond;
            }
            int below = quay.from - (x + quay.arm(STERN));
            if (below > 0) {
                if (pace / 100 < 0) {
                    addHarm(quay, pace / 100);
                }
                pace = 0;
                x += below;
            }
        }

        private void addHarm(Quay quay, long strike) {
            harm += strike * strike * quay.weight / 10;
        }

        boolean isSafe(Quay quay) {
            return Math.abs(pace) < 100 && Math.abs(drift) < 100 && Math.abs(turn) < 100
                && Math.abs(angle) < 2000
                && liesWell(quay, quay.arm(BOW)) && liesWell(quay, quay.arm(STERN));
        }

        private boolean liesWell(Quay quay, int arm) {
            return wayOff(arm) < 300 && x + arm >= quay.from && x + arm <= quay.to;
        }
    }

    /** Looks for the least or the greatest with which it goes well, on ships and a quay of its own. */
    private static final class Search {
        private static final int WAIT_MOST = 120, FORCE_MOST = 99, GAP_STEP = 50;
        private static final int ASTERN_SECONDS = 60, OFF_SECONDS = 120;

        private final Ship base = new Ship();
        private final Ship probe = new Ship();
        private final Quay other = new Quay();

        int leastAstern(Quay quay, Ship from) {
            base.copyFrom(from);
            for (int t = 0; t <= WAIT_MOST && base.harm == from.harm; t++) {
                if (stopsSafely(quay)) {
                    return t;
                }
                base.passSecond(quay);
            }
            return NONE;
        }

        private boolean stopsSafely(Quay quay) {
            probe.copyFrom(base);
            probe.engine = -2;
            probe.wheel = 0;
            for (int i = 0; i < ASTERN_SECONDS && probe.harm == base.harm; i++) {
                // Once stopped the engine stays stopped, even if she goes ahead again.
                if (probe.pace <= 0) {
                    probe.engine = 0;
                }
                probe.passSecond(quay);
            }
            return probe.harm == base.harm && probe.isSafe(quay);
        }

        int greatestOff(Quay quay, Ship from) {
            int greatest = NONE;
            base.copyFrom(from);
            for (int t = 0; t <= WAIT_MOST && base.harm == from.harm; t++) {
                if (getsOff(quay)) {
                    greatest = t;
                }
                base.passSecond(quay);
            }
            return greatest;
        }

        private boolean getsOff(Quay quay) {
            probe.copyFrom(base);
            probe.engine = -3;
            probe.wheel = 0;
            for (int i = 0; i < OFF_SECONDS && probe.harm == base.harm; i++) {
                probe.passSecond(quay);
            }
            return probe.harm == base.harm;
        }

        int greatestWind(Quay quay, Ship from, Plan plan, int n) {
            other.copyFrom(quay);
            for (int f = FORCE_MOST; f >= 0; f--) {
                other.windForce = f;
                probe.copyFrom(from);
                if (isSafeByPlan(other, plan, n)) {
                    return f;
                }
            }
            return NONE;
        }

        int leastGap(Quay quay, Ship from, Plan plan, int n) {
            int steps = (quay.to - 1 - quay.from) / GAP_STEP;
            other.copyFrom(quay);
            for (int k = steps; k >= 0; k--) {
                other.from = quay.from + k * GAP_STEP;
                probe.copyFrom(from);
                if (isSafeByPlan(other, plan, n)) {
                    return other.to - other.from;
                }
            }
            return NONE;
        }

        int leastTug(Quay quay, Ship from, Plan plan, int n) {
            for (int q = 0; q <= FORCE_MOST; q++) {
                probe.copyFrom(from);
                probe.tugForce = q;
                if (isSafeByPlan(quay, plan, n)) {
                    return q;
                }
            }
            return NONE;
        }

        private boolean isSafeByPlan(Quay quay, Plan plan, int n) {
            long before = probe.harm;
            int next = 0;
            for (int i = 0; i < n && probe.harm == before; i++) {
                next = plan.steer(probe, next, i);
                probe.passSecond(quay);
            }
            return probe.harm == before && probe.isSafe(quay);
        }
    }

    /** At which hours of the tide a line's length must be told. */
    private static final class Night {
        private static final int HOURS_MOST = 24, DECK_MOST = 999, DECK_OF_QUAY = 300, SLACK = 100;

        int size;
        private final int[] hours = new int[HOURS_MOST];

        static boolean isDeck(int h) {
            return h >= 0 && h <= DECK_MOST;
        }

        static int lengthNeeded(int along, int deck, int height) {
            return rootOfSquares(along, deck + height - DECK_OF_QUAY);
        }

        /** Holds each length as long as can be, which needs the fewest. */
        void tend(Tide tide, int along, int deck) {
            size = 0;
            int least = 0;
            int most = 0;
            for (int hour = 0; hour < tide.size && hour < HOURS_MOST; hour++) {
                int needed = lengthNeeded(along, deck, tide.heightAt(hour));
                least = Math.min(least, needed);
                most = Math.max(most, needed);
                if (size == 0 || most - least > SLACK) {
                    least = needed;
                    most = needed;
                    hours[size] = hour;
                    size++;
                }
            }
        }

        int hourOf(int k) {
            return k >= 0 && k < size && k < HOURS_MOST ? hours[k] : NONE;
        }

        int hoursAsSet() {
            int set = 0;
            for (int k = 0; k < size && k < HOURS_MOST; k++) {
                set |= 1 << hours[k];
            }
            return set;
        }
    }

    /** In which order lines are let go; sets of lines that still hold are whole numbers, bit l for line l. */
    private static final class LettingGo {
        private static final int SETS = 1 << Lines.MOST;

        private final int[] shares = new int[Lines.MOST];
        private final int[] strengths = new int[Lines.MOST];
        // By set: the least greatest strain from then on, if they are let go in the best order.
        private final int[] best = new int[SETS];
        private int all;

        void weigh(Quay quay, Ship ship) {
            all = 0;
            for (int l = 0; l < Lines.MOST; l++) {
                if (ship.lines.isFast(l)) {
                    all |= 1 << l;
                    shares[l] = 1 + ship.wayOff(quay.arm(ship.lines.place[l])) / 10;
                    strengths[l] = quay.postStrength(ship.lines.post[l]);
                }
            }
            int blow = quay.windForce * quay.weight * 10;
            best[0] = 0;
            // A set's parts are lesser numbers than it is: they stand already.
            for (int set = 1; set < SETS; set++) {
                if ((set & all) == set) {
                    best[set] = Math.max(strainOf(set, blow), bestAfterOne(set));
                }
            }
        }

        private int strainOf(int set, int blow) {
            int sum = 0;
            for (int l = 0; l < Lines.MOST; l++) {
                sum += isIn(set, l) ? shares[l] : 0;
            }
            int greatest = 0;
            for (int l = 0; l < Lines.MOST; l++) {
                if (isIn(set, l) && sum > 0 && strengths[l] > 0) {
                    greatest = Math.max(greatest, blow * shares[l] / sum * 100 / strengths[l]);
                }
            }
            return greatest;
        }

        private int bestAfterOne(int set) {
            int least = NONE;
            for (int l = 0; l < Lines.MOST; l++) {
                if (isIn(set, l) && (least == NONE || best[set & ~(1 << l)] < least)) {
                    least = best[set & ~(1 << l)];
                }
            }
            return least;
        }

        int greatestStrain() {
            return best[all];
        }

        /** The j-th line of the first order whose greatest strain is the least. */
        int lineAt(int j) {
            int set = all;
            for (int i = 0; i < Lines.MOST && set != 0; i++) {
                int next = firstToGo(set);
                if (i == j) {
                    return next;
                }
                set &= ~(1 << next);
            }
            return NONE;
        }

        /** Of lines after which all may still stay at or below the least, the first. */
        private int firstToGo(int set) {
            for (int l = 0; l < Lines.MOST; l++) {
                if (isIn(set, l) && best[set & ~(1 << l)] <= best[all]) {
                    return l;
                }
            }
            return 0;
        }

        private static boolean isIn(int set, int l) {
            return (set >> l & 1) == 1;
        }
    }
}
