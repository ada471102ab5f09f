import java.util.ArrayList;
import java.util.Arrays;
import java.util.HashMap;
import java.util.List;
import java.util.Map;
import java.util.regex.Matcher;
import java.util.regex.Pattern;

/**
 * The document once more, written for plainness alone: everything is tried out in full, with longs,
 * on copies, without any short cut. RandomRunsTest holds the program against it.
 */
final class Model {
    static final int NONE = -1, UNKNOWN = -1000000001, OUTSIDE = -1000000002, NOT = -1000000003, FULL = -1000000004;
    private static final Pattern TOKEN = Pattern.compile("[a-z]+|[0-9]+|;|[^a-z0-9; ]", Pattern.DOTALL);
    private static final String[][] CLAUSES = {
        {"gap", "0-9999", "0-9999"}, {"ship", "500-9000", "1-99"}, {"screw", "0-50", "0-99"}, {"wheel", "0-99"},
        {"slow", "0-50", "0-50", "0-50"}, {"wind", "0-99"}, {"give", "1-99"}, {"fender", "0-999"},
        {"post", "0-9999", "1-999"}, {"at", "0-999", "0-6", "0-6"}, {"hour", "0-999"}};

    static final class Rope {
        long place, post, n;

        Rope(long place, long post, long n) {
            this.place = place;
            this.post = post;
            this.n = n;
        }
    }

    /** All that an image keeps. */
    static final class State {
        long x = 4500, y = 3000, angle, pace, drift, turn, e, r, q, seconds, harm, knocks, fell, seed;
        Rope[] ropes = new Rope[6];

        State copy() {
            State s = new State();
            s.x = x; s.y = y; s.angle = angle; s.pace = pace; s.drift = drift; s.turn = turn;
            s.e = e; s.r = r; s.q = q; s.seconds = seconds; s.harm = harm; s.knocks = knocks; s.fell = fell; s.seed = seed;
            for (int l = 0; l < 6; l++) {
                s.ropes[l] = ropes[l] == null ? null : new Rope(ropes[l].place, ropes[l].post, ropes[l].n);
            }
            return s;
        }
    }

    private String text = "";
    private int faultAt = NONE;
    private Map<String, long[]> told = untold();
    private List<long[]> posts = new ArrayList<>();
    private List<long[]> plan = new ArrayList<>();
    private List<Long> tide = new ArrayList<>();
    private List<Long> log = new ArrayList<>();
    private State s = new State();
    private final State[] images = new State[2];

    private static Map<String, long[]> untold() {
        Map<String, long[]> m = new HashMap<>();
        m.put("gap", new long[] {0, 9000});
        m.put("ship", new long[] {5000, 30});
        m.put("screw", new long[] {8, 10});
        m.put("wheel", new long[] {20});
        m.put("slow", new long[] {2, 10, 10});
        m.put("wind", new long[] {2});
        m.put("give", new long[] {10});
        m.put("fender", new long[] {10});
        return m;
    }

    private long t(String word, int i) {
        return told.get(word)[i];
    }

    // ---- texts

    int feed(int n, long bytes) {
        if (n < 1 || n > 8) return OUTSIDE;
        if (text.length() + n > 300) return FULL;
        for (int i = n - 1; i >= 0; i--) text += (char) (bytes >>> 8 * i & 255);
        return text.length();
    }

    private static final class Fault extends RuntimeException {
        private static final long serialVersionUID = 1;
        final int number, at;

        Fault(int number, int at) {
            this.number = number;
            this.at = at;
        }
    }

    private List<Map.Entry<String, long[]>> read(String source, List<String> words) {
        List<Map.Entry<String, long[]>> clauses = new ArrayList<>();
        List<String> tokens = new ArrayList<>();
        List<Integer> places = new ArrayList<>();
        Matcher m = TOKEN.matcher(source);
        while (m.find()) {
            tokens.add(m.group());
            places.add(m.start());
        }
        tokens.add("");
        places.add(source.length());
        int k = 0;
        while (!tokens.get(k).isEmpty()) {
            String word = tokens.get(k);
            if (!words.contains(word)) throw new Fault(1, places.get(k));
            long before = clauses.stream().filter(c -> c.getKey().equals(word)).count();
            long most = word.equals("post") ? 12 : word.equals("at") ? 20 : word.equals("hour") ? 24 : 1;
            if (before == most) throw new Fault(3, places.get(k));
            String[] shape = Arrays.stream(CLAUSES).filter(c -> c[0].equals(word)).findFirst().get();
            long[] numbers = new long[shape.length - 1];
            k++;
            for (int i = 0; i < numbers.length; i++, k++) {
                String token = tokens.get(k);
                int place = places.get(k);
                if (!token.matches("[0-9]+")) throw new Fault(1, place);
                if (token.length() > 4) throw new Fault(2, place);
                long v = Long.parseLong(token);
                String[] bounds = shape[i + 1].split("-");
                if (v < Long.parseLong(bounds[0]) || v > Long.parseLong(bounds[1])) throw new Fault(2, place);
                if (word.equals("gap") && i == 1 && v <= numbers[0]) throw new Fault(2, place);
                if (word.equals("post") && i == 0
                    && clauses.stream().anyMatch(c -> c.getKey().equals("post") && c.getValue()[0] == v)) throw new Fault(4, place);
                if (word.equals("at") && i == 0 && clauses.stream().anyMatch(c -> c.getValue()[0] >= v)) throw new Fault(4, place);
                numbers[i] = v;
            }
            if (!tokens.get(k).equals(";")) throw new Fault(1, places.get(k));
            k++;
            clauses.add(Map.entry(word, numbers));
        }
        return clauses;
    }

    int quay() {
        String source = text;
        text = "";
        faultAt = NONE;
        try {
            List<Map.Entry<String, long[]>> clauses = read(source,
                List.of("gap", "ship", "screw", "wheel", "slow", "wind", "give", "fender", "post"));
            told = untold();
            posts = new ArrayList<>();
            for (Map.Entry<String, long[]> c : clauses) {
                if (c.getKey().equals("post")) posts.add(c.getValue());
                else told.put(c.getKey(), c.getValue());
            }
            long seed = s.seed;
            s = new State();
            s.seed = seed;
            images[0] = null;
            images[1] = null;
            return posts.size();
        } catch (Fault f) {
            faultAt = f.at;
            return -10 - f.number;
        }
    }

    int plan() {
        String source = text;
        text = "";
        faultAt = NONE;
        try {
            List<long[]> fresh = new ArrayList<>();
            for (Map.Entry<String, long[]> c : read(source, List.of("at"))) fresh.add(c.getValue());
            plan = fresh;
            return plan.size();
        } catch (Fault f) {
            faultAt = f.at;
            return -10 - f.number;
        }
    }

    int tide() {
        String source = text;
        text = "";
        faultAt = NONE;
        try {
            List<Long> fresh = new ArrayList<>();
            for (Map.Entry<String, long[]> c : read(source, List.of("hour"))) fresh.add(c.getValue()[0]);
            tide = fresh;
            return tide.size();
        } catch (Fault f) {
            faultAt = f.at;
            return -10 - f.number;
        }
    }

    int fault() {
        return faultAt;
    }

    int told(int what) {
        long[] all = {t("gap", 0), t("gap", 1), t("ship", 0), t("ship", 1), t("screw", 0), t("screw", 1), t("wheel", 0),
            t("slow", 0), t("slow", 1), t("slow", 2), t("wind", 0), t("give", 0), t("fender", 0),
            posts.size(), plan.size(), tide.size(), text.length()};
        return what < 0 || what >= all.length ? OUTSIDE : (int) all[what];
    }

    private boolean isPost(int k) {
        return k >= 0 && k < posts.size();
    }

    int post(int k, int what) {
        if (!isPost(k)) return UNKNOWN;
        return what < 0 || what > 1 ? OUTSIDE : (int) posts.get(k)[what];
    }

    // ---- the ship

    int put(int what, int v) {
        int[] most = {9999, 30000, 45000, 20000, 20000, 5000, 3, 3, 99};
        if (what < 0 || what > 8) return OUTSIDE;
        int least = what < 2 || what == 8 ? 0 : -most[what];
        if (v < least || v > most[what]) return OUTSIDE;
        int was = (int) now(what);
        if (what == 0) s.x = v;
        if (what == 1) s.y = v;
        if (what == 2) s.angle = v;
        if (what == 3) s.pace = v;
        if (what == 4) s.drift = v;
        if (what == 5) s.turn = v;
        if (what == 6) s.e = v;
        if (what == 7) s.r = v;
        if (what == 8) s.q = v;
        return was;
    }

    long now(int what) {
        return what < 0 || what > 16 ? OUTSIDE : all(s)[what];
    }

    private long[] all(State z) {
        return new long[] {z.x, z.y, z.angle, z.pace, z.drift, z.turn, z.e, z.r, z.q, z.seconds, z.harm, z.knocks, z.fell,
            off(z, 100), off(z, -100), safe(z) ? 1 : 0, lines(z), lines(z)};
    }

    private long lines(State z) {
        return Arrays.stream(z.ropes).filter(r -> r != null).count();
    }

    private long arm(long p) {
        return t("ship", 0) / 2 * p / 100;
    }

    private long along(State z, long p) {
        return z.x + arm(p);
    }

    private long off(State z, long p) {
        return Math.max(0, z.y - arm(p) * z.angle / 57296);
    }

    private static long root(long squares) {
        long r = (long) Math.sqrt((double) squares);
        while (r * r > squares) r--;
        while ((r + 1) * (r + 1) <= squares) r++;
        return r;
    }

    private long distance(State z, long p, long post) {
        long w = posts.get((int) post)[0] - along(z, p);
        long o = off(z, p);
        return root(w * w + o * o);
    }

    private long pull(State z, Rope r) {
        return Math.max(0, (distance(z, r.place, r.post) - r.n) * t("give", 0) / 10);
    }

    private static long hold(long v, long most) {
        return v > most ? most : v < -most ? -most : v;
    }

    private int second(State z) {
        int parted = 0;
        for (int l = 0; l < 6; l++) {
            if (z.ropes[l] != null && pull(z, z.ropes[l]) > posts.get((int) z.ropes[l].post)[1]) {
                z.ropes[l] = null;
                parted++;
            }
        }
        long m = t("ship", 1);
        long pace = z.pace + z.e * t("screw", 0) - z.pace * t("slow", 0) / 100;
        long drift = z.drift + z.q * 10 / m - t("wind", 0) - z.drift * t("slow", 1) / 100;
        long turn = z.turn + z.r * z.pace / 100 * t("wheel", 0) / m - z.turn * t("slow", 2) / 100;
        if (z.e < 0) turn += z.e * t("screw", 1) / m;
        for (Rope r : z.ropes) {
            if (r == null) continue;
            long w = posts.get((int) r.post)[0] - along(z, r.place);
            long o = off(z, r.place);
            long d = Math.max(1, distance(z, r.place, r.post));
            long pull = pull(z, r);
            pace += pull * w / d * 10 / m;
            drift += pull * o / d * 10 / m;
            turn += pull * o / d * arm(r.place) / m / 10;
        }
        z.pace = hold(pace, 50000);
        z.drift = hold(drift, 50000);
        z.turn = hold(turn, 20000);
        z.x = z.x + z.pace / 100;
        z.y = z.y - z.drift / 100 - z.pace / 100 * z.angle / 57296;
        z.angle = hold(z.angle + z.turn, 45000);
        z.seconds++;
        for (long p : new long[] {100, -100}) {
            long off = z.y - arm(p) * z.angle / 57296;
            if (off >= 0) continue;
            long v = (z.drift + z.pace * z.angle / 57296 + z.turn * arm(p) / 573) / 100;
            if (v > t("fender", 0)) {
                z.knocks++;
                z.harm += v * v * m / 10;
            }
            if (v > 0) {
                z.drift = 0;
                z.turn = -(z.turn / 3);
            }
            z.y -= off;
        }
        if (along(z, 100) > t("gap", 1)) {
            if (z.pace / 100 > 0) z.harm += z.pace / 100 * (z.pace / 100) * m / 10;
            z.pace = 0;
            z.x -= along(z, 100) - t("gap", 1);
        }
        if (along(z, -100) < t("gap", 0)) {
            if (z.pace / 100 < 0) z.harm += z.pace / 100 * (z.pace / 100) * m / 10;
            z.pace = 0;
            z.x += t("gap", 0) - along(z, -100);
        }
        if (z.y > 30000) {
            z.y = 30000;
            if (z.drift < 0) z.drift = 0;
        }
        return parted;
    }

    private boolean safe(State z) {
        for (long v : new long[] {z.pace, z.drift, z.turn}) if (v <= -100 || v >= 100) return false;
        if (z.angle <= -2000 || z.angle >= 2000) return false;
        for (long p : new long[] {100, -100}) {
            if (off(z, p) >= 300 || along(z, p) < t("gap", 0) || along(z, p) > t("gap", 1)) return false;
        }
        return true;
    }

    int go(int n) {
        if (n < 1 || n > 600) return OUTSIDE;
        int parted = 0;
        for (int i = 0; i < n; i++) parted += second(s);
        return parted;
    }

    private int byPlan(State z, int n) {
        int parted = 0;
        long e = z.e, r = z.r;
        for (int i = 0; i < n; i++) {
            z.e = e;
            z.r = r;
            for (long[] at : plan) {
                if (at[0] <= i) {
                    z.e = at[1] - 3;
                    z.r = at[2] - 3;
                }
            }
            parted += second(z);
        }
        return parted;
    }

    int follow(int n) {
        return n < 1 || n > 600 ? OUTSIDE : byPlan(s, n);
    }

    // ---- lines

    int fast(int l, int p, int post, int n) {
        if (l < 0 || l > 5 || !isPost(post)) return UNKNOWN;
        if (p < -100 || p > 100 || n < -1 || n > 9999) return OUTSIDE;
        if (s.ropes[l] != null) return NOT;
        s.ropes[l] = new Rope(p, post, n == NONE ? distance(s, p, post) : n);
        return (int) s.ropes[l].n;
    }

    int heave(int l, int p, int post) {
        if (l < 0 || l > 5 || !isPost(post)) return UNKNOWN;
        if (p < -100 || p > 100) return OUTSIDE;
        if (s.ropes[l] != null) return NOT;
        s.seed = (s.seed * 1103515245L + 12345L) % (1L << 31);
        if (s.seed / 65536 % 100 < 100 - distance(s, p, post) / 50) {
            s.ropes[l] = new Rope(p, post, distance(s, p, post));
            return 1;
        }
        s.fell++;
        return 0;
    }

    int odds(int p, int post) {
        if (!isPost(post)) return UNKNOWN;
        if (p < -100 || p > 100) return OUTSIDE;
        return (int) Math.max(0, 100 - distance(s, p, post) / 50);
    }

    private Rope rope(int l) {
        return l < 0 || l > 5 ? null : s.ropes[l];
    }

    int veer(int l, int n) {
        if (rope(l) == null) return UNKNOWN;
        if (n < 0 || n > 9999) return OUTSIDE;
        int was = (int) rope(l).n;
        rope(l).n = n;
        return was;
    }

    int cast(int l) {
        if (rope(l) == null) return UNKNOWN;
        int n = (int) rope(l).n;
        s.ropes[l] = null;
        return n;
    }

    int line(int l, int what) {
        Rope r = rope(l);
        if (r == null) return UNKNOWN;
        if (what < 0 || what > 4) return OUTSIDE;
        return (int) new long[] {r.place, r.post, r.n, distance(s, r.place, r.post), pull(s, r)}[what];
    }

    int does(int p, int post) {
        if (!isPost(post)) return UNKNOWN;
        if (p < -100 || p > 100) return OUTSIDE;
        long w = posts.get(post)[0] - along(s, p);
        boolean in = off(s, p) > 0;
        return (w > 0 ? 1 : 0) + (w < 0 ? 2 : 0) + (in ? 4 : 0) + (in && p > 0 ? 8 : 0) + (in && p < 0 ? 16 : 0);
    }

    // ---- tried

    long tried(int n, int what) {
        if (n < 1 || n > 600 || !List.of(0, 1, 2, 3, 4, 5, 9, 10, 11, 15, 17).contains(what)) return OUTSIDE;
        State z = s.copy();
        byPlan(z, n);
        return all(z)[what];
    }

    int astern() {
        for (int t = 0; t <= 120; t++) {
            State z = s.copy();
            for (int i = 0; i < t; i++) second(z);
            boolean stopped = false;
            for (int i = 0; i < 60; i++) {
                stopped |= z.pace <= 0;
                z.e = stopped ? 0 : -2;
                z.r = 0;
                second(z);
            }
            if (safe(z) && z.harm == s.harm) return t;
        }
        return NONE;
    }

    int off() {
        for (int t = 120; t >= 0; t--) {
            State z = s.copy();
            for (int i = 0; i < t; i++) second(z);
            z.e = -3;
            z.r = 0;
            for (int i = 0; i < 120; i++) second(z);
            if (z.harm == s.harm) return t;
        }
        return NONE;
    }

    private boolean goesWell(int n, long q) {
        State z = s.copy();
        z.q = q;
        byPlan(z, n);
        return safe(z) && z.harm == s.harm;
    }

    int wind(int n) {
        if (n < 1 || n > 300) return OUTSIDE;
        long[] before = told.get("wind");
        int best = NONE;
        for (int f = 0; f <= 99; f++) {
            told.put("wind", new long[] {f});
            if (goesWell(n, s.q)) best = f;
        }
        told.put("wind", before);
        return best;
    }

    int gap(int n) {
        if (n < 1 || n > 300) return OUTSIDE;
        long[] before = told.get("gap");
        int best = NONE;
        for (long a = before[0]; a < before[1]; a += 50) {
            told.put("gap", new long[] {a, before[1]});
            if (goesWell(n, s.q)) best = (int) (before[1] - a);
        }
        told.put("gap", before);
        return best;
    }

    int tug(int n) {
        if (n < 1 || n > 300) return OUTSIDE;
        for (int q = 0; q <= 99; q++) if (goesWell(n, q)) return q;
        return NONE;
    }

    // ---- nights, letting go

    private long need(Rope r, long height, long h) {
        long w = posts.get((int) r.post)[0] - along(s, r.place);
        long o = h + height - 300;
        return root(w * w + o * o);
    }

    int needs(int l, int hour, int h) {
        if (rope(l) == null || hour < 0 || hour >= tide.size()) return UNKNOWN;
        if (h < 0 || h > 999) return OUTSIDE;
        return (int) need(rope(l), tide.get(hour), h);
    }

    /** One length serves the hours from .. to (without to). */
    private boolean serves(Rope r, int from, int to, int h) {
        long least = 0, most = Long.MAX_VALUE;
        for (int k = from; k < to; k++) {
            least = Math.max(least, need(r, tide.get(k), h));
            most = Math.min(most, need(r, tide.get(k), h) + 100);
        }
        return least <= most;
    }

    /** The fewest, by looking at all ways; then of the fewest the one whose next hours are the latest, one by one. */
    private List<Integer> when(Rope r, int h) {
        int hours = tide.size();
        int[] fewest = new int[hours + 1];
        for (int from = hours - 1; from >= 0; from--) {
            fewest[from] = Integer.MAX_VALUE;
            for (int to = from + 1; to <= hours; to++) {
                if (serves(r, from, to, h)) fewest[from] = Math.min(fewest[from], 1 + fewest[to]);
            }
        }
        List<Integer> when = new ArrayList<>();
        int from = 0;
        while (from < hours) {
            when.add(from);
            int next = from;
            for (int to = from + 1; to <= hours; to++) {
                if (serves(r, from, to, h) && 1 + fewest[to] == fewest[from]) next = to;
            }
            from = next;
        }
        return when;
    }

    int tended(int l, int h, int what) {
        if (rope(l) == null) return UNKNOWN;
        if (h < 0 || h > 999) return OUTSIDE;
        List<Integer> when = when(rope(l), h);
        if (what == NONE) return when.size();
        return what < 0 || what >= when.size() ? NONE : when.get(what);
    }

    int wakes(int h) {
        if (h < 0 || h > 999) return OUTSIDE;
        int set = 0;
        for (Rope r : s.ropes) if (r != null) for (int hour : when(r, h)) set |= 1 << hour;
        return set;
    }

    private long worstOf(List<Integer> order) {
        long worst = 0;
        for (int from = 0; from < order.size(); from++) {
            List<Integer> holding = order.subList(from, order.size());
            long sum = 0;
            for (int l : holding) sum += 1 + off(s, s.ropes[l].place) / 10;
            for (int l : holding) {
                long load = t("wind", 0) * t("ship", 1) * 10 * (1 + off(s, s.ropes[l].place) / 10) / sum;
                worst = Math.max(worst, load * 100 / posts.get((int) s.ropes[l].post)[1]);
            }
        }
        return worst;
    }

    private void orders(List<Integer> sofar, List<List<Integer>> all) {
        boolean whole = true;
        for (int l = 0; l < 6; l++) {
            if (s.ropes[l] == null || sofar.contains(l)) continue;
            whole = false;
            sofar.add(l);
            orders(sofar, all);
            sofar.remove(sofar.size() - 1);
        }
        if (whole) all.add(new ArrayList<>(sofar));
    }

    int order(int j) {
        if (lines(s) == 0) return NOT;
        List<List<Integer>> all = new ArrayList<>();
        orders(new ArrayList<>(), all);
        List<Integer> best = all.get(0);
        for (List<Integer> order : all) if (worstOf(order) < worstOf(best)) best = order;
        if (j == NONE) return (int) worstOf(best);
        return j < 0 || j >= best.size() ? NONE : best.get(j);
    }

    // ---- logs, draws, images

    int log(int x) {
        if (x < -99999 || x > 99999) return OUTSIDE;
        if (log.size() == 60) return FULL;
        log.add((long) x);
        return log.size();
    }

    int clear() {
        int had = log.size();
        log.clear();
        return had;
    }

    int judge(int e) {
        if (e < 0 || e > 9999) return OUTSIDE;
        for (int k = 0; k < log.size(); k++) {
            State z = s.copy();
            byPlan(z, k);
            if (Math.abs(z.x - log.get(k)) > e) return k;
        }
        return NONE;
    }

    int seed(int v) {
        if (v < 0) return OUTSIDE;
        int was = (int) s.seed;
        s.seed = v;
        return was;
    }

    int keep(int i) {
        if (i < 0 || i > 1) return UNKNOWN;
        images[i] = s.copy();
        return 1;
    }

    int goBack(int i) {
        if (i < 0 || i > 1) return UNKNOWN;
        if (images[i] == null) return NOT;
        s = images[i].copy();
        return 1;
    }
}
