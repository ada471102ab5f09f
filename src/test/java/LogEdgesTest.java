/** Each sentence of the document on logs, draws and images that names an edge; promises 30 to 35. */
public final class LogEdgesTest {
    private static final int UNKNOWN = AlongsideLines.UNKNOWN, OUTSIDE = AlongsideLines.OUTSIDE;
    private static final int NOT = AlongsideLines.NOT, FULL = AlongsideLines.FULL, NONE = -1;
    private static final int LEAST = Integer.MIN_VALUE, MOST = Integer.MAX_VALUE;
    /** 10 ahead each second with PACE 1000; E 1 makes 100 more of PACE a second. */
    private static final String CALM = "gap 0 9999;ship 500 10;screw 50 0;wheel 0;slow 0 0 0;wind 0;post 5000 50;";
    private static final Checks checks = new Checks();

    public static void main(String[] args) {
        logBounds();
        logFull();
        clearing();
        entryZero();
        moreThanE();
        firstEntry();
        judgeByThePlan();
        judgeBounds();
        judgeNone();
        seedBounds();
        seedAtFirst();
        keepBounds();
        goBackBounds();
        notKept();
        whatImagesKeep();
        whatImagesLeave();
        imagesByThemselves();
        checks.end();
    }

    private static void sentence(String words) {
        checks.sentence(words);
    }

    private static void due(String call, long got, long want) {
        checks.due(call, got, want);
    }

    private static AlongsideLines at(int... values) {
        AlongsideLines x = Checks.at(CALM);
        Checks.put(x, values);
        return x;
    }

    private static void logBounds() {
        sentence("Promise 30: An X (-99999 .. 99999) behind THE LOG: how many it has. OUTSIDE");
        AlongsideLines x = at(5000, 3000);
        for (int v : new int[] {-100000, 100000, LEAST, MOST}) {
            due("log(" + v + ")", x.log(v), OUTSIDE);
        }
        due("none", x.clear(), 0);
        int k = 0;
        for (int v : new int[] {-99999, -99998, -1, 0, 1, 99998, 99999}) {
            k++;
            due("log(" + v + ")", x.log(v), k);
        }
        // Each stands as it was told: off from X by just as much.
        x.clear();
        x.put(0, 0);
        x.log(-9999);
        due("-9999 by 9999", x.judge(9999), NONE);
        due("-9999 by 9998", x.judge(9998), 0);
        x.clear();
        x.log(-99999);
        due("-99999", x.judge(9999), 0);
    }

    private static void logFull() {
        sentence("THE LOG is a row of X (60 at most); Promise 30: FULL (60)");
        AlongsideLines x = at(5000, 3000);
        for (int k = 1; k <= 60; k++) {
            due("log", x.log(5000), k);
        }
        due("all 60 stand", x.judge(0), NONE);
        for (int v : new int[] {5000, 0, -99999, 99999}) {
            due("a 61st", x.log(v), FULL);
        }
        for (int v : new int[] {-100000, 100000, LEAST, MOST}) {
            due("a 61st outside", x.log(v), OUTSIDE);
        }
        due("as they were", x.judge(0), NONE);
        due("60", x.clear(), 60);
        due("room again", x.log(1), 1);
    }

    private static void clearing() {
        sentence("Promise 31: THE LOG is empty: how many it had.");
        AlongsideLines x = at(5000, 3000);
        due("none", x.clear(), 0);
        x.log(1);
        due("one", x.clear(), 1);
        due("none again", x.clear(), 0);
        due("nothing is wrong any more", x.judge(0), NONE);
        x.log(5000);
        x.log(5000);
        due("from 0 on again", x.judge(0), NONE);
        due("two", x.clear(), 2);
    }

    private static void entryZero() {
        sentence("entry k is told of k seconds from when that is asked (entry 0: then)");
        AlongsideLines x = at(5000, 3000, 0, 1000);
        x.log(5000);
        due("entry 0: then", x.judge(0), NONE);
        x.log(5010);
        due("entry 1", x.judge(0), NONE);
        for (int k = 2; k < 60; k++) {
            x.log(5000 + 10 * k);
        }
        due("entry 59", x.judge(0), NONE);
        // Asked a second later, each is a second behind.
        x.go(1);
        due("later", x.judge(9), 0);
        due("later by 10", x.judge(10), NONE);
        x.clear();
        for (int k = 0; k < 59; k++) {
            x.log(5010 + 10 * k);
        }
        x.log(5010 + 590 + 1);
        due("entry 59 is wrong", x.judge(0), 59);
    }

    private static void moreThanE() {
        sentence("WRONG: the first entry at which, TRIED, X is other by more than e");
        for (int side : new int[] {1, -1}) {
            for (int e : new int[] {0, 1, 500, 9998}) {
                AlongsideLines x = at(5000, 3000);
                x.log(5000 + side * e);
                due("by e " + e, x.judge(e), NONE);
                x.log(5000 + side * (e + 1));
                due("by more than e " + e, x.judge(e), 1);
                due("by e and 1", x.judge(e + 1), NONE);
            }
        }
    }

    private static void firstEntry() {
        sentence("WRONG: the first entry");
        AlongsideLines x = at(5000, 3000);
        x.log(5000);
        x.log(5003);
        x.log(5009);
        x.log(5001);
        due("by 0", x.judge(0), 1);
        due("by 2", x.judge(2), 1);
        due("by 3", x.judge(3), 2);
        due("by 8", x.judge(8), 2);
        due("by 9", x.judge(9), NONE);
    }

    private static void judgeByThePlan() {
        sentence("WRONG: the first entry at which, TRIED, X is other");
        // E 2 from T 2 on: PACE 1000 1000 1100 1200 ..
        AlongsideLines x = at(5000, 3000, 0, 1000);
        Checks.plan(x, "at 2 5 3;");
        for (int place : new int[] {5000, 5010, 5020, 5031, 5043, 5056}) {
            x.log(place);
        }
        due("by THE PLAN", x.judge(0), NONE);
        x.plan();
        due("without", x.judge(0), 3);
        x.put(6, 2);
        due("by E as it is", x.judge(0), 1);
        Checks.plan(x, "at 0 3 3;at 2 5 3;");
        due("T 0", x.judge(0), NONE);
        due("none went by", x.now(9), 0);
        due("E as it was", x.now(6), 2);
    }

    private static void judgeBounds() {
        sentence("Promise 32: WRONG by more than e (0 .. 9999); NONE. OUTSIDE.");
        AlongsideLines x = at(0, 3000);
        x.log(9999);
        x.log(99999);
        due("0", x.judge(0), 0);
        due("9998", x.judge(9998), 0);
        due("9999", x.judge(9999), 1);
        for (int e : new int[] {-1, 10000, LEAST, MOST}) {
            due("judge(" + e + ")", x.judge(e), OUTSIDE);
        }
    }

    private static void judgeNone() {
        sentence("WRONG: ..; NONE");
        AlongsideLines x = new AlongsideLines();
        due("an empty LOG", x.judge(0), NONE);
        x.log(4500);
        due("right", x.judge(0), NONE);
        due("an empty LOG by e outside", new AlongsideLines().judge(-1), OUTSIDE);
    }

    private static void seedBounds() {
        sentence("Promise 33: THE SEED becomes v (0 .. 2147483647): what it was. OUTSIDE.");
        AlongsideLines x = new AlongsideLines();
        int was = 0;
        for (int v : new int[] {0, 1, 2147483646, 2147483647, 5}) {
            due("seed(" + v + ")", x.seed(v), was);
            was = v;
        }
        for (int v : new int[] {-1, -2, LEAST}) {
            due("seed(" + v + ")", x.seed(v), OUTSIDE);
        }
        due("as it was", x.seed(0), 5);
    }

    private static void seedAtFirst() {
        sentence("THE SEED (0 at first");
        due("at first", new AlongsideLines().seed(9), 0);
        AlongsideLines x = at(5000, 0);
        x.heave(0, 0, 0);
        due("after a DRAW", x.seed(0), 12345);
        x.seed(77);
        x.quay();
        due("quay leaves it", x.seed(0), 77);
    }

    private static void keepBounds() {
        sentence("Promise 34: IMAGE i becomes what is so: 1. UNKNOWN.");
        for (int i : new int[] {0, 1}) {
            AlongsideLines x = at(5000, 3000);
            due("keep(" + i + ")", x.keep(i), 1);
            due("keep(" + i + ") again", x.keep(i), 1);
        }
        for (int i : new int[] {-1, 2, LEAST, MOST}) {
            due("keep(" + i + ")", at(5000, 3000).keep(i), UNKNOWN);
        }
    }

    private static void goBackBounds() {
        sentence("Promise 35: What is so becomes IMAGE i: 1. UNKNOWN");
        for (int i : new int[] {0, 1}) {
            AlongsideLines x = at(5000, 3000);
            x.keep(i);
            x.put(0, 6000);
            due("goBack(" + i + ")", x.goBack(i), 1);
            due("X", x.now(0), 5000);
            x.put(0, 7000);
            due("goBack(" + i + ") again", x.goBack(i), 1);
            due("X again", x.now(0), 5000);
        }
        for (int i : new int[] {-1, 2, LEAST, MOST}) {
            due("goBack(" + i + ")", at(5000, 3000).goBack(i), UNKNOWN);
        }
    }

    private static void notKept() {
        sentence("Promise 35: NOT: it was not kept.");
        AlongsideLines x = at(5000, 3000);
        due("goBack(0)", x.goBack(0), NOT);
        due("goBack(1)", x.goBack(1), NOT);
        x.keep(1);
        due("goBack(0), 1 was kept", x.goBack(0), NOT);
        due("goBack(1)", x.goBack(1), 1);
        due("a faulty quay", Checks.quay(x, "x"), -11);
        due("goBack(1) still", x.goBack(1), 1);
        due("a quay", x.quay(), 0);
        due("goBack(1) of another quay", x.goBack(1), NOT);
        x.keep(0);
        due("goBack(0)", x.goBack(0), 1);
        due("goBack(1) of another quay still", x.goBack(1), NOT);
    }

    private static void whatImagesKeep() {
        sentence("IMAGES 0, 1 keep THE SHIP with E, R, the TUG, lines, seconds, HARM, KNOCKS, heaves that fell, THE SEED.");
        for (int i : new int[] {0, 1}) {
            AlongsideLines x = at(5000, 0, 0, 0, 5000);
            x.go(1);
            due("HARM", x.now(10), 2500);
            Checks.put(x, 5001, 5002, 3, 4, 5, 6, 1, -2, 9);
            x.heave(0, 0, 0);
            x.put(1, 30000);
            x.heave(3, 0, 0);
            x.put(1, 5002);
            x.fast(1, 10, 0, 11);
            x.fast(5, -20, 0, 12);
            x.seed(13);
            long[] all = {5001, 5002, 3, 4, 5, 6, 1, -2, 9, 1, 2500, 1, 2, x.now(13), x.now(14), 0, 2};
            x.keep(i);
            // Everything becomes something else.
            Checks.put(x, 1, 0, 2, 3, 5000, 5, 2, -3, 8);
            x.go(3);
            x.heave(2, 0, 0);
            x.cast(1);
            x.veer(5, 99);
            x.fast(1, 0, 0, 1);
            x.fast(4, 0, 0, 1);
            x.seed(14);
            due("goBack", x.goBack(i), 1);
            for (int what = 0; what < all.length; what++) {
                due("now(" + what + ")", x.now(what), all[what]);
            }
            due("SEED", x.seed(13), 13);
            int[][] lines = {{}, {10, 0, 11}, {}, {}, {}, {-20, 0, 12}};
            for (int l = 0; l < 6; l++) {
                for (int what = 0; what < 3; what++) {
                    due("line(" + l + ", " + what + ")", x.line(l, what), lines[l].length == 0 ? UNKNOWN : lines[l][what]);
                }
            }
        }
    }

    private static void whatImagesLeave() {
        sentence("IMAGES 0, 1 keep THE SHIP .. (and not THE QUAY, THE PLAN, THE TIDE, THE LOG, THE TEXT)");
        AlongsideLines x = at(5000, 3000);
        x.keep(0);
        Checks.plan(x, "at 1 1 1;");
        Checks.tide(x, "hour 1;hour 2;");
        x.log(7);
        x.log(8);
        Checks.plan(x, "x");
        Checks.feed(x, "abc");
        x.goBack(0);
        due("PLAN", x.told(14), 1);
        due("TIDE", x.told(15), 2);
        due("TEXT", x.told(16), 3);
        due("fault()", x.fault(), 0);
        due("LOG", x.clear(), 2);
        due("POSTS", x.told(13), 1);
    }

    private static void imagesByThemselves() {
        sentence("Promise 34: IMAGE i becomes what is so");
        AlongsideLines x = at(5000, 3000);
        x.fast(0, 0, 0, 100);
        x.keep(0);
        x.put(0, 6000);
        x.veer(0, 200);
        x.keep(1);
        x.put(0, 7000);
        x.veer(0, 300);
        x.goBack(0);
        due("X of 0", x.now(0), 5000);
        due("N of 0", x.line(0, 2), 100);
        // What comes after one has gone back leaves the image as it is.
        x.veer(0, 400);
        x.put(0, 8000);
        x.go(1);
        x.goBack(0);
        due("X of 0 again", x.now(0), 5000);
        due("N of 0 again", x.line(0, 2), 100);
        x.goBack(1);
        due("X of 1", x.now(0), 6000);
        due("N of 1", x.line(0, 2), 200);
        // Kept anew, it is what is so then.
        x.keep(0);
        x.put(0, 1);
        x.goBack(0);
        due("X of 0 kept anew", x.now(0), 6000);
    }
}
