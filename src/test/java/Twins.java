import java.util.ArrayList;
import java.util.List;

/**
 * Two objects are told the same, one of them gets a call more: if it changes nothing, both answer all alike.
 * All that can be asked of an object is asked, what a question destroys at last. No object gets more than 512 calls.
 */
final class Twins {
    interface Story {
        void tellTo(AlongsideLines x);
    }

    interface Call {
        long on(AlongsideLines x);
    }

    private final Checks checks;
    private final Story story;
    private final List<String> untouched;

    Twins(Checks checks, Story story) {
        this.checks = checks;
        this.story = story;
        untouched = allOf(told());
    }

    private AlongsideLines told() {
        AlongsideLines x = new AlongsideLines();
        story.tellTo(x);
        return x;
    }

    /** The call answers what is due and changes nothing. */
    void changesNothing(String name, long want, Call call) {
        AlongsideLines x = told();
        checks.due(name, call.on(x), want);
        List<String> after = allOf(x);
        for (int i = 0; i < untouched.size(); i++) {
            boolean same = untouched.get(i).equals(after.get(i));
            checks.due(name + " changed " + untouched.get(i) + " to " + after.get(i), same ? 1 : 0, 1);
        }
    }

    /** The call changes something: else the twins would prove nothing. */
    void changes(String name, Call call) {
        AlongsideLines x = told();
        call.on(x);
        checks.due(name + " changed something", allOf(x).equals(untouched) ? 0 : 1, 1);
    }

    static List<String> allOf(AlongsideLines x) {
        List<String> all = new ArrayList<>();
        quayOf(x, all);
        note(all, "fault()", x.fault());
        shipOf(x, all);
        for (int n : new int[] {1, 2, 5, 10, 20, 40, 80}) {
            note(all, "tried(" + n + ", 3)", x.tried(n, 3));
            note(all, "tried(" + n + ", 5)", x.tried(n, 5));
        }
        for (int hour = 0; hour < 25; hour++) {
            note(all, "needs(0, " + hour + ", 300)", x.needs(0, hour, 300));
        }
        for (int e : new int[] {0, 10, 100, 1000, 9999}) {
            note(all, "judge(" + e + ")", x.judge(e));
        }
        note(all, "clear()", x.clear());
        for (int i = 0; i < 2; i++) {
            note(all, "goBack(" + i + ")", x.goBack(i));
            shipOf(x, all);
        }
        // What THE TEXT holds shows when it becomes THE QUAY.
        note(all, "quay()", x.quay());
        note(all, "fault()", x.fault());
        quayOf(x, all);
        return all;
    }

    private static void quayOf(AlongsideLines x, List<String> all) {
        for (int what = 0; what < 17; what++) {
            note(all, "told(" + what + ")", x.told(what));
        }
        for (int k = 0; k < 13; k++) {
            note(all, "post(" + k + ", 0)", x.post(k, 0));
            note(all, "post(" + k + ", 1)", x.post(k, 1));
        }
    }

    private static void shipOf(AlongsideLines x, List<String> all) {
        for (int what = 0; what < 17; what++) {
            note(all, "now(" + what + ")", x.now(what));
        }
        for (int l = 0; l < 6; l++) {
            for (int what = 0; what < 5; what++) {
                note(all, "line(" + l + ", " + what + ")", x.line(l, what));
            }
        }
        int seed = x.seed(0);
        x.seed(seed);
        note(all, "seed", seed);
    }

    private static void note(List<String> all, String call, long answer) {
        all.add(call + " = " + answer);
    }

    // -- stories

    static void fresh(AlongsideLines x) {
        // Nothing is told to a new object.
    }

    private static void sail(AlongsideLines x) {
        Checks.quay(x, "gap 500 9500;ship 4000 20;wind 3;fender 0;post 3000 600;post 6000 400;post 7000 999;");
        Checks.plan(x, "at 1 5 4;at 9 1 2;at 30 3 3;");
        Checks.tide(x, "hour 100;hour 450;hour 260;");
        Checks.put(x, 4400, 30, 500, 700, 800, 30, -1, 2, 40);
        x.seed(77);
        x.fast(0, 50, 0, -1);
        x.put(1, 8000);
        x.heave(2, -100, 1);
        x.put(1, 30);
        x.keep(0);
        x.go(5);
        x.fast(2, -80, 1, 3000);
        x.fast(5, 100, 2, 2500);
    }

    private static void logSeconds(AlongsideLines x, int n) {
        for (int k = 0; k < n; k++) {
            x.log((int) (k == 0 ? x.now(0) : x.tried(k, 0)));
        }
    }

    /** All told, three lines, an image, five seconds of a log, a fault behind and half a text ahead. */
    static void underWay(AlongsideLines x) {
        sail(x);
        logSeconds(x, 5);
        Checks.plan(x, "at 5;");
        Checks.feed(x, "wind 7;post 44 5");
    }

    /** All that can be full is: THE TEXT, THE LOG, six lines, both images. */
    static void full(AlongsideLines x) {
        sail(x);
        for (int l = 0; l < 6; l++) {
            x.fast(l, 10 * l, 0, 9000);
        }
        x.keep(1);
        x.put(3, 55);
        logSeconds(x, 60);
        StringBuilder text = new StringBuilder("wind 9;");
        while (text.length() < 291) {
            text.append(' ');
        }
        Checks.feed(x, text.append("post 5 7;").toString());
    }
}
