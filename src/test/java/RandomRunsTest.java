import java.lang.reflect.Method;
import java.util.ArrayList;
import java.util.List;
import java.util.Random;

/** Runs of calls by chance (the same each time), each answer held against Model's. */
public final class RandomRunsTest {
    private static final String[] WORDS = {"gap", "post", "ship", "screw", "wheel", "slow", "wind", "give", "fender", "at", "hour"};
    private static final int[] NUMBERS = {2, 2, 2, 2, 1, 3, 1, 1, 1, 3, 1};
    private static final int[] EDGES = {0, 1, -1, 2, 3, -100, 100, 99, 50, 300, 500, 600, 601, 999, 1000, 9999, 10000, 101, -101, 24, 12,
        30000, 45000, -45000, 20000, Integer.MAX_VALUE, Integer.MIN_VALUE, -2};

    private final Random random;
    private AlongsideLines x = new AlongsideLines();
    private Model model = new Model();
    private final List<String> calls = new ArrayList<>();
    private int dearCalls;

    private RandomRunsTest(long seed) {
        random = new Random(seed);
    }

    public static void main(String[] args) throws Exception {
        int runs = args.length > 1 ? Integer.parseInt(args[1]) : 400;
        long made = 0;
        for (int run = 0; run < runs; run++) {
            made += new RandomRunsTest(run).run(run);
        }
        System.out.println(made + " answers of " + runs + " runs are as due");
    }

    private long run(int number) throws Exception {
        int length = 100 + random.nextInt(200);
        boolean ready = random.nextInt(8) > 0;
        if (ready) {
            ok(tellQuay() && feed(planText()) && call("plan") && feed(tideText()) && call("tide") && comeNear(), number);
        }
        for (int i = 0; i < length; i++) {
            ok(step(), number);
        }
        return calls.size();
    }

    private void ok(boolean asDue, int number) {
        if (!asDue) {
            System.out.println("run " + number + ":");
            calls.forEach(System.out::println);
            System.exit(1);
        }
    }

    private boolean step() throws Exception {
        switch (random.nextInt(12)) {
            case 0: return random.nextInt(3) > 0 || tellText();
            case 1: return random.nextInt(3) > 0 || comeNear();
            case 2: return moor();
            case 3: return random.nextInt(4) > 0 || logSeconds();
            default: return anyCall();
        }
    }

    private boolean call(String name, long... args) throws Exception {
        Method real = find(AlongsideLines.class, name);
        Method due = find(Model.class, name);
        Class<?>[] types = real.getParameterTypes();
        Object[] boxed = new Object[types.length];
        StringBuilder line = new StringBuilder(name).append('(');
        for (int i = 0; i < types.length; i++) {
            boxed[i] = types[i] == long.class ? (Object) args[i] : (Object) (int) args[i];
            line.append(i > 0 ? ", " : "").append(boxed[i]);
        }
        long got = ((Number) real.invoke(x, boxed)).longValue();
        long want = ((Number) due.invoke(model, boxed)).longValue();
        line.append(") answered ").append(got).append(", due is ").append(want);
        calls.add(line.toString());
        return got == want;
    }

    private static Method find(Class<?> in, String name) {
        for (Method m : in.getDeclaredMethods()) {
            if (m.getName().equals(name) && !java.lang.reflect.Modifier.isPrivate(m.getModifiers())) {
                m.setAccessible(true);
                return m;
            }
        }
        throw new IllegalStateException(name);
    }

    private boolean feed(String text) throws Exception {
        for (int from = 0; from < text.length();) {
            int n = Math.min(1 + random.nextInt(8), text.length() - from);
            long bytes = random.nextInt(3) == 0 ? random.nextLong() : 0;
            for (int i = 0; i < n; i++) {
                bytes = bytes << 8 | text.charAt(from + i) & 255;
            }
            if (!call("feed", n, bytes)) {
                return false;
            }
            from += n;
        }
        return true;
    }

    private long edgeOr(long v) {
        return random.nextInt(25) == 0 ? EDGES[random.nextInt(EDGES.length)] : v;
    }

    // -- texts

    private boolean tellQuay() throws Exception {
        StringBuilder text = new StringBuilder();
        int a = random.nextInt(3000);
        if (random.nextInt(4) > 0) text.append("gap ").append(a).append(' ').append(a + 3000 + random.nextInt(4000)).append(';');
        if (random.nextInt(4) > 0) text.append("ship ").append(500 + random.nextInt(random.nextBoolean() ? 2500 : 8500)).append(' ').append(1 + random.nextInt(99)).append(';');
        if (random.nextInt(2) > 0) text.append("screw ").append(random.nextInt(51)).append(' ').append(random.nextInt(100)).append(';');
        if (random.nextInt(2) > 0) text.append("wheel ").append(random.nextInt(100)).append(';');
        if (random.nextInt(2) > 0) text.append("slow ").append(random.nextInt(51)).append(' ').append(random.nextInt(51)).append(' ').append(random.nextInt(51)).append(';');
        if (random.nextInt(2) > 0) text.append("wind ").append(random.nextInt(random.nextBoolean() ? 5 : 100)).append(';');
        if (random.nextInt(2) > 0) text.append("give ").append(1 + random.nextInt(99)).append(';');
        if (random.nextInt(2) > 0) text.append("fender ").append(random.nextInt(random.nextBoolean() ? 20 : 1000)).append(';');
        int posts = random.nextInt(10);
        for (int k = 0; k < posts; k++) {
            text.append("post ").append(random.nextInt(10) * 1000 + k).append(' ').append(1 + random.nextInt(999)).append(';');
        }
        return feed(text.toString()) && call("quay") && call("fault");
    }

    private boolean tellText() throws Exception {
        switch (random.nextInt(7)) {
            case 0: return tellQuay();
            case 1: return feed(planText()) && call("plan") && call("fault");
            case 2: return feed(tideText()) && call("tide") && call("fault");
            case 3: return feed(spoilt(planText())) && call("plan") && call("fault");
            case 4: return feed(spoilt(tideText())) && call("tide") && call("fault");
            case 5: return feed(spoilt(anyText())) && call("quay") && call("fault");
            default: return feed(anyText()) && call(random.nextBoolean() ? "plan" : "tide") && call("fault");
        }
    }

    private String planText() {
        StringBuilder text = new StringBuilder();
        int second = random.nextInt(20);
        int most = random.nextInt(20) == 0 ? 22 : 6;
        for (int k = random.nextInt(most); k > 0; k--) {
            text.append("at ").append(second).append(' ').append(random.nextInt(7)).append(' ').append(random.nextInt(7)).append(';');
            second += random.nextInt(60) == 0 ? 0 : 1 + random.nextInt(40);
        }
        return text.toString();
    }

    private String tideText() {
        StringBuilder text = new StringBuilder();
        int most = random.nextInt(20) == 0 ? 27 : 25;
        int height = random.nextInt(1000);
        for (int k = random.nextInt(most); k > 0; k--) {
            text.append("hour ").append(height).append(';');
            height = Math.max(0, Math.min(random.nextInt(90) == 0 ? 1000 : 999, height + random.nextInt(301) - 150));
        }
        return text.toString();
    }

    private String anyText() {
        StringBuilder text = new StringBuilder();
        for (int k = random.nextInt(7); k > 0; k--) {
            int c = random.nextInt(random.nextInt(5) > 0 ? 9 : WORDS.length);
            text.append(WORDS[c]);
            for (int i = 0; i < NUMBERS[c]; i++) {
                int v = random.nextInt(4) == 0 ? EDGES[random.nextInt(EDGES.length)] : random.nextInt(i == 0 ? 2000 : 100);
                text.append(' ').append(random.nextInt(9) > 0 ? Math.abs((long) v) % 20000 : random.nextInt(5));
            }
            text.append(';');
        }
        return text.toString();
    }

    private String spoilt(String text) {
        StringBuilder b = new StringBuilder(text);
        String signs = " ;0123456789abtz,A";
        for (int k = random.nextInt(3); k > 0 && b.length() > 0; k--) {
            int at = random.nextInt(b.length());
            char sign = random.nextInt(12) == 0 ? (char) random.nextInt(256) : signs.charAt(random.nextInt(signs.length()));
            switch (random.nextInt(3)) {
                case 0: b.setCharAt(at, sign); break;
                case 1: b.insert(at, sign); break;
                default: b.deleteCharAt(at); break;
            }
        }
        return b.toString();
    }

    // -- calls

    /** Puts her where a good end is likely. */
    private boolean comeNear() throws Exception {
        int a = model.told(0);
        int b = model.told(1);
        boolean calm = random.nextBoolean();
        int x0 = a + random.nextInt(Math.max(1, b - a));
        return call("put", 0, Math.min(9999, random.nextInt(3) > 0 ? (a + b) / 2 : x0))
            && call("put", 1, random.nextInt(calm ? 300 : 4000))
            && call("put", 2, random.nextInt(calm ? 1001 : 60001) % 45001 * (random.nextBoolean() ? 1 : -1))
            && call("put", 3, random.nextInt(calm ? 600 : 20001) * (random.nextBoolean() ? 1 : -1))
            && call("put", 4, random.nextInt(calm ? 200 : 20001) * (random.nextBoolean() ? 1 : -1))
            && call("put", 5, random.nextInt(calm ? 50 : 5001) * (random.nextBoolean() ? 1 : -1))
            && call("put", 6, random.nextInt(calm ? 1 : 7) % 4)
            && call("put", 7, calm ? 0 : random.nextInt(7) - 3)
            && call("put", 8, random.nextInt(3) == 0 ? random.nextInt(100) : 0);
    }

    private boolean moor() throws Exception {
        if (model.told(13) == 0) {
            return true;
        }
        int post = random.nextInt(model.told(13));
        int p = random.nextInt(201) - 100;
        int l = random.nextInt(6);
        if (random.nextInt(3) == 0) {
            return call("heave", l, p, post);
        }
        return call("fast", l, p, post, random.nextInt(3) == 0 ? random.nextInt(4000) : -1);
    }

    private boolean logSeconds() throws Exception {
        int n = 1 + random.nextInt(20);
        for (int k = 0; k < n; k++) {
            long due = k == 0 ? model.now(0) : model.tried(k, 0);
            if (!call("log", due + random.nextInt(5) - 2)) {
                return false;
            }
        }
        return call("judge", random.nextInt(3)) && call("judge", 2);
    }

    private boolean anyCall() throws Exception {
        int post = random.nextInt(Math.max(1, model.told(13)));
        int p = (int) edgeOr(random.nextInt(201) - 100);
        int l = (int) edgeOr(random.nextInt(6));
        switch (random.nextInt(34)) {
            case 0: return call("told", edgeOr(random.nextInt(17)));
            case 1: return call("post", edgeOr(post), edgeOr(random.nextInt(2)));
            case 2: case 3: return call("put", edgeOr(random.nextInt(9)), random.nextInt(3) == 0 ? EDGES[random.nextInt(EDGES.length)] : random.nextInt(7) - 3);
            case 4: case 5: case 6: return allNow();
            case 7: case 8: case 9: return call("go", edgeOr(1 + random.nextInt(random.nextInt(9) > 0 ? 12 : 600))) && allNow();
            case 10: case 11: return call("follow", edgeOr(1 + random.nextInt(random.nextInt(9) > 0 ? 30 : 600))) && allNow();
            case 12: return call("fast", l, p, edgeOr(post), edgeOr(random.nextInt(9999)));
            case 13: return call("heave", l, p, edgeOr(post));
            case 14: return call("odds", p, edgeOr(post));
            case 15: return call("veer", l, edgeOr(random.nextInt(5000)));
            case 16: return random.nextInt(3) > 0 || call("cast", l);
            case 17: case 18: return call("line", l, edgeOr(random.nextInt(5)));
            case 19: return call("does", p, edgeOr(post));
            case 20: return call("tried", edgeOr(1 + random.nextInt(60)), edgeOr(random.nextInt(18)));
            case 21: case 22: return dearCall();
            case 23: return call("needs", l, edgeOr(random.nextInt(Math.max(1, model.told(15)))), edgeOr(random.nextInt(1000)));
            case 24: return call("tended", l, edgeOr(random.nextInt(1000)), edgeOr(random.nextInt(6) - 1));
            case 25: return call("wakes", edgeOr(random.nextInt(1000)));
            case 26: return call("order", edgeOr(random.nextInt(8) - 1));
            case 27: return call("log", edgeOr(random.nextInt(9000)));
            case 28: return random.nextInt(4) > 0 || call("clear");
            case 29: return call("judge", edgeOr(random.nextInt(3000)));
            case 30: return call("seed", edgeOr(random.nextInt()));
            case 31: return call("keep", edgeOr(random.nextInt(2)));
            case 32: return call("goBack", edgeOr(random.nextInt(2)));
            default: return call("feed", edgeOr(1 + random.nextInt(8)), random.nextLong()) && call("told", 16);
        }
    }

    private boolean allNow() throws Exception {
        for (int what = 0; what <= 16; what++) {
            if (!call("now", what)) {
                return false;
            }
        }
        return call("now", edgeOr(17));
    }

    /** The model takes its time for these. */
    private boolean dearCall() throws Exception {
        if (++dearCalls > 12) {
            return true;
        }
        int n = 1 + random.nextInt(random.nextInt(3) > 0 ? 30 : 300);
        switch (random.nextInt(5)) {
            case 0: return call("astern");
            case 1: return call("off");
            case 2: return call("wind", edgeOr(n));
            case 3: return call("gap", edgeOr(n));
            default: return call("tug", edgeOr(n));
        }
    }
}
