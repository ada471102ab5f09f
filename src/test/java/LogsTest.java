/** Promises 30 to 35: log, clear, judge, seed, keep, goBack. */
public final class LogsTest {
    private static final int UNKNOWN = AlongsideLines.UNKNOWN, OUTSIDE = AlongsideLines.OUTSIDE;
    private static final int NOT = AlongsideLines.NOT, NONE = AlongsideLines.NONE;
    private static final Checks checks = new Checks();

    public static void main(String[] args) {
        logging();
        judging();
        seeds();
        images();
        checks.end();
    }

    private static void due(String call, long got, long want) {
        checks.due(call, got, want);
    }

    private static void logging() {
        AlongsideLines x = new AlongsideLines();
        due("log(100000)", x.log(100000), OUTSIDE);
        due("log(-100000)", x.log(-100000), OUTSIDE);
        due("log(99999)", x.log(99999), 1);
        due("log(-99999)", x.log(-99999), 2);
        for (int k = 3; k <= 60; k++) {
            due("log", x.log(k), k);
        }
        due("log a 61st", x.log(0), AlongsideLines.FULL);
        due("log a 61st outside", x.log(100000), OUTSIDE);
        due("clear", x.clear(), 60);
        due("clear again", x.clear(), 0);
        due("log anew", x.log(0), 1);
    }

    /** From 5000 by 10 a second; from the third second on by E 3 times 50 faster each: 1150, 1300, 1450, 1600, 1750. */
    private static void judging() {
        AlongsideLines x = Checks.at("gap 0 9999;ship 500 10;screw 50 0;slow 0 0 0;wind 0;");
        Checks.plan(x, "at 3 6 3;");
        Checks.put(x, 5000, 3000, 0, 1000);
        due("an empty log", x.judge(0), NONE);
        int[] due = {5000, 5010, 5020, 5030, 5041, 5054, 5068};
        for (int place : due) {
            x.log(place);
        }
        due("all right", x.judge(0), NONE);
        x.log(5084 + 3);
        due("3 wrong by more than 2", x.judge(2), 7);
        due("3 wrong by more than 3", x.judge(3), NONE);
        x.log(5101 - 7);
        due("7 less by more than 6", x.judge(6), 8);
        due("the first", x.judge(0), 7);
        due("7 less by more than 7", x.judge(7), NONE);
        due("judge(-1)", x.judge(-1), OUTSIDE);
        due("judge(10000)", x.judge(10000), OUTSIDE);
        due("judge(9999)", x.judge(9999), NONE);
        due("nothing went by", x.now(9), 0);
        due("E as it was", x.now(6), 0);
        // From when it is asked: a second later entry 0 is wrong already.
        x.go(1);
        due("later", x.judge(9), 0);
        x.clear();
        x.log(-99999);
        due("far off", x.judge(9999), 0);
        x.clear();
        for (int k = 0; k < 60; k++) {
            x.log((int) (k == 0 ? x.now(0) : x.tried(k, 0)));
        }
        due("sixty", x.judge(0), NONE);
    }

    private static void seeds() {
        AlongsideLines x = new AlongsideLines();
        due("seed(5)", x.seed(5), 0);
        due("seed(-1)", x.seed(-1), OUTSIDE);
        due("seed(MIN)", x.seed(Integer.MIN_VALUE), OUTSIDE);
        due("seed(MAX)", x.seed(Integer.MAX_VALUE), 5);
        due("seed(0)", x.seed(0), 2147483647);
        Checks.quay(x, "post 4500 9;");
        x.seed(2147483647);
        x.heave(0, 0, 0);
        due("drawn", x.seed(0), (2147483647L * 1103515245L + 12345L) % 2147483648L);
    }

    private static long[] all(AlongsideLines x) {
        long[] all = new long[17 + 30 + 1];
        for (int what = 0; what < 17; what++) {
            all[what] = x.now(what);
        }
        for (int l = 0; l < 6; l++) {
            for (int what = 0; what < 5; what++) {
                all[17 + 5 * l + what] = x.line(l, what);
            }
        }
        all[47] = x.seed(0);
        x.seed((int) all[47]);
        return all;
    }

    private static void same(String when, AlongsideLines x, long[] before) {
        long[] now = all(x);
        for (int i = 0; i < now.length; i++) {
            due(when + ": " + i, now[i], before[i]);
        }
    }

    private static void images() {
        AlongsideLines x = Checks.at("ship 4000 20;wind 3;fender 0;post 3000 600;post 6000 400;");
        for (int i : new int[] {-1, 2, Integer.MAX_VALUE, Integer.MIN_VALUE}) {
            due("keep(" + i + ")", x.keep(i), UNKNOWN);
            due("goBack(" + i + ")", x.goBack(i), UNKNOWN);
        }
        due("goBack(0)", x.goBack(0), NOT);
        due("goBack(1)", x.goBack(1), NOT);
        long[] first = all(x);
        due("keep(1)", x.keep(1), 1);
        Checks.put(x, 4400, 30, 500, 700, 800, 30, -1, 2, 40);
        x.seed(77);
        x.fast(3, 50, 0, -1);
        x.heave(1, -100, 1);
        x.put(1, 8000);
        x.heave(0, -100, 1);
        x.heave(2, -100, 1);
        x.put(1, 30);
        x.go(9);
        long[] second = all(x);
        due("knocked", x.now(11) > 0 ? 1 : 0, 1);
        due("fell", x.now(12) > 0 ? 1 : 0, 1);
        due("keep(0)", x.keep(0), 1);
        x.log(5);
        x.go(20);
        x.veer(3, 9);
        x.cast(1);
        x.seed(1);
        due("goBack(1)", x.goBack(1), 1);
        same("first", x, first);
        due("the log stays", x.clear(), 1);
        due("goBack(0)", x.goBack(0), 1);
        same("second", x, second);
        x.go(20);
        due("goBack(0) again", x.goBack(0), 1);
        same("second again", x, second);
        due("keep over it", x.keep(1), 1);
        x.go(1);
        x.goBack(1);
        same("kept over", x, second);
        x.plan();
        x.tide();
        due("plan and tide leave images", x.goBack(0), 1);
    }
}
