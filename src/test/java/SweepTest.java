import java.lang.reflect.InvocationTargetException;
import java.lang.reflect.Method;
import java.lang.reflect.Modifier;

/** Every call with every bound of the document, one below and one above it, in several states, held against Model. */
public final class SweepTest {
    private static final int MIN = Integer.MIN_VALUE, MAX = Integer.MAX_VALUE;
    private static final int[] ALL = {MIN, -100000, -99999, -45001, -45000, -20001, -20000, -5001, -5000, -101, -100, -4, -3, -2, -1, 0, 1, 2, 3, 4, 5, 6, 7,
        8, 9, 11, 12, 13, 16, 17, 18, 23, 24, 25, 59, 60, 61, 98, 99, 100, 101, 119, 120, 121, 299, 300, 301, 599, 600, 601, 998, 999, 1000, 5000, 5001,
        9998, 9999, 10000, 20000, 20001, 29999, 30000, 30001, 45000, 45001, 99999, 100000, MAX};
    private static final int[] FEW = {MIN, -1, 0, 1, 150, 299, 300, 301, MAX};
    private static final int[] LINES = {MIN, -1, 0, 1, 5, 6, MAX}, PLACES = {MIN, -101, -100, -1, 0, 1, 100, 101, MAX}, POSTS = {MIN, -1, 0, 2, 3, MAX};
    private static final int[] LENGTHS = {MIN, -2, -1, 0, 9999, 10000, MAX}, HOURS = {MIN, -1, 0, 2, 3, 24, MAX}, DECKS = {MIN, -1, 0, 300, 999, 1000, MAX};
    private static final int[] WHATS = {MIN, -2, -1, 0, 1, 2, 23, 24, MAX};
    /** A pair is told its story anew ere an object has had its 512 calls. */
    private static final int CALLS_MOST = 250;

    private final String story;
    private AlongsideLines x;
    private Model model;
    private int calls;
    private long made;
    private int wrong;

    private SweepTest(String story) {
        this.story = story;
    }

    public static void main(String[] args) throws Exception {
        long made = 0;
        int wrong = 0;
        for (String story : new String[] {"fresh", "lying", "underWay", "full"}) {
            SweepTest sweep = new SweepTest(story);
            sweep.all();
            made += sweep.made;
            wrong += sweep.wrong;
        }
        System.out.println(wrong == 0 ? made + " answers are as due" : wrong + " of " + made + " answers are not as due");
        if (wrong != 0) {
            System.exit(1);
        }
    }

    private void all() throws Exception {
        for (String name : new String[] {"quay", "plan", "tide", "fault", "astern", "off", "clear"}) {
            begin();
            sweep(name);
        }
        for (String name : new String[] {"told", "now", "go", "follow", "cast", "wakes", "order", "log", "judge", "seed", "keep", "goBack"}) {
            begin();
            sweep(name, ALL);
        }
        for (String name : new String[] {"wind", "gap", "tug"}) {
            begin();
            sweep(name, FEW);
        }
        for (String name : new String[] {"post", "put", "odds", "veer", "line", "does", "tried"}) {
            begin();
            sweep(name, ALL, ALL);
        }
        begin();
        sweep("feed", ALL, FEW);
        begin();
        sweep("heave", LINES, PLACES, POSTS);
        begin();
        sweep("needs", LINES, HOURS, DECKS);
        begin();
        sweep("tended", LINES, DECKS, WHATS);
        begin();
        sweep("fast", LINES, PLACES, POSTS, LENGTHS);
    }

    private void sweep(String name, int[]... values) throws Exception {
        Method real = find(AlongsideLines.class, name);
        Method due = find(Model.class, name);
        int[] at = new int[values.length];
        int runs = 1;
        for (int[] v : values) {
            runs *= v.length;
        }
        for (int run = 0; run < runs; run++) {
            int left = run;
            for (int i = 0; i < values.length; i++) {
                at[i] = values[i][left % values[i].length];
                left /= values[i].length;
            }
            compare(name, real, due, at);
        }
    }

    private void compare(String name, Method real, Method due, int... args) throws Exception {
        if (++calls > CALLS_MOST) {
            begin();
        }
        Class<?>[] types = real.getParameterTypes();
        Object[] boxed = new Object[types.length];
        StringBuilder line = new StringBuilder(story).append(": ").append(name).append('(');
        for (int i = 0; i < types.length; i++) {
            boxed[i] = types[i] == long.class ? (Object) (long) args[i] : (Object) args[i];
            line.append(i > 0 ? ", " : "").append(boxed[i]);
        }
        made++;
        try {
            long got = ((Number) real.invoke(x, boxed)).longValue();
            long want = ((Number) due.invoke(model, boxed)).longValue();
            if (got != want) {
                wrong++;
                System.out.println(line + ") answered " + got + ", due is " + want);
            }
        } catch (InvocationTargetException e) {
            wrong++;
            System.out.println(line + ") threw " + e.getCause());
        }
    }

    private static Method find(Class<?> in, String name) {
        for (Method m : in.getDeclaredMethods()) {
            if (m.getName().equals(name) && !Modifier.isPrivate(m.getModifiers())) {
                m.setAccessible(true);
                return m;
            }
        }
        throw new IllegalStateException(name);
    }

    // -- stories, told to both

    private void begin() throws Exception {
        x = new AlongsideLines();
        model = new Model();
        calls = 0;
        if (story.equals("fresh")) {
            return;
        }
        if (story.equals("lying")) {
            tell("gap 1000 8000;ship 4000 20;wind 0;slow 0 0 0;fender 5;screw 10 0;post 1500 400;post 3500 300;post 5500 300;", "quay");
            tell("at 3 4 3;at 6 3 3;", "plan");
            tell("hour 100;hour 150;hour 260;", "tide");
            both("put", 1, 20);
            both("fast", 0, -100, 0, 9000);
            both("fast", 5, 100, 2, 9000);
            return;
        }
        tell("gap 500 9500;ship 4000 20;wind 3;fender 0;post 3000 600;post 6000 400;post 7000 999;", "quay");
        tell("at 1 5 4;at 9 1 2;at 30 3 3;", "plan");
        tell("hour 100;hour 450;hour 260;", "tide");
        int[] values = {4400, 30, 500, 700, 800, 30, -1, 2, 40};
        for (int what = 0; what < values.length; what++) {
            both("put", what, values[what]);
        }
        both("seed", 77);
        both("fast", 0, 50, 0, -1);
        both("heave", 2, -100, 1);
        both("keep", 0);
        both("go", 5);
        boolean full = story.equals("full");
        for (int l = 0; full && l < 6; l++) {
            both("fast", l, 10 * l, 0, 9000);
        }
        for (int k = 0; k < (full ? 60 : 5); k++) {
            both("log", (int) model.now(0) + k);
        }
        if (full) {
            both("keep", 1);
        }
        tell("  x", "plan");
        feed(full ? " ".repeat(292) + "wind 99;" : "wind 7;post 44 5");
    }

    private void both(String name, int... args) throws Exception {
        compare(name, find(AlongsideLines.class, name), find(Model.class, name), args);
        // What a story takes has its own room below the 512.
        calls--;
    }

    private void tell(String text, String name) throws Exception {
        feed(text);
        both(name);
    }

    private void feed(String text) {
        for (int from = 0; from < text.length(); from += 8) {
            int n = Math.min(8, text.length() - from);
            long bytes = 0;
            for (int i = 0; i < n; i++) {
                bytes = bytes << 8 | text.charAt(from + i) & 255;
            }
            x.feed(n, bytes);
            model.feed(n, bytes);
        }
    }
}
