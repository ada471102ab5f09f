/** Promises 1 to 8: a new object, feed, quay, plan, tide, fault, told, post. */
public final class TextsTest {
    private static final int QUAY = 0, PLAN = 1, TIDE = 2;
    private static final Checks checks = new Checks();

    public static void main(String[] args) {
        aNewObject();
        feeding();
        toldAndPosts();
        whatQuayChanges();
        plansAndTides();
        faultsOfQuays();
        faultsOfPlansAndTides();
        limits();
        checks.end();
    }

    private static void due(String call, long got, long want) {
        checks.due(call, got, want);
    }

    private static void aNewObject() {
        AlongsideLines x = new AlongsideLines();
        int[] untold = {0, 9000, 5000, 30, 8, 10, 20, 2, 10, 10, 2, 10, 10, 0, 0, 0, 0};
        for (int what = 0; what < untold.length; what++) {
            due("new: told(" + what + ")", x.told(what), untold[what]);
        }
        due("new: now(0)", x.now(0), 4500);
        due("new: now(1)", x.now(1), 3000);
        for (int what = 2; what <= 12; what++) {
            due("new: now(" + what + ")", x.now(what), 0);
        }
        due("new: now(16)", x.now(16), 0);
        due("new: fault()", x.fault(), -1);
        due("new: clear()", x.clear(), 0);
        due("new: seed(7)", x.seed(7), 0);
        due("new: goBack(0)", x.goBack(0), AlongsideLines.NOT);
        due("new: post(0, 0)", x.post(0, 0), AlongsideLines.UNKNOWN);
    }

    private static void feeding() {
        AlongsideLines x = new AlongsideLines();
        due("feed(0)", x.feed(0, 1), AlongsideLines.OUTSIDE);
        due("feed(9)", x.feed(9, 1), AlongsideLines.OUTSIDE);
        due("feed(-1)", x.feed(-1, 1), AlongsideLines.OUTSIDE);
        due("feed: told(16)", x.told(16), 0);
        // 'wind' in the lowest four bytes, other bytes above them that do not count.
        due("feed(4)", x.feed(4, 0x4142434477696e64L), 4);
        due("feed(2)", x.feed(2, 0x2037L), 6);
        due("feed(1)", x.feed(1, 0xff3bL), 7);
        due("feed: told(16)", x.told(16), 7);
        due("feed: quay()", x.quay(), 0);
        due("feed: told(10)", x.told(10), 7);
        due("feed: told(16)", x.told(16), 0);
        for (int i = 1; i <= 37; i++) {
            due("feed blanks", x.feed(8, 0x2020202020202020L), 8 * i);
        }
        due("feed over the end", x.feed(5, 0), AlongsideLines.FULL);
        due("feed(9) when nearly full", x.feed(9, 0), AlongsideLines.OUTSIDE);
        due("feed to the end", x.feed(4, 0x20202020L), 300);
        due("feed at the end", x.feed(1, 0x20L), AlongsideLines.FULL);
        due("feed: told(16)", x.told(16), 300);
        due("300 blanks", x.quay(), 0);
        // Bytes of a negative long, and bytes above 127.
        due("feed negative", x.feed(8, -1L), 8);
        due("byte 255", x.plan(), -11);
        due("byte 255 fault", x.fault(), 0);
    }

    private static void toldAndPosts() {
        AlongsideLines x = new AlongsideLines();
        due("all", Checks.quay(x, "gap 1 2;post 3 4;ship 501 6;screw 7 8;wheel 9;slow 10 11 12;wind 13;give 14;"
            + "fender 15;post 0 999;post 9999 1;"), 3);
        int[] told = {1, 2, 501, 6, 7, 8, 9, 10, 11, 12, 13, 14, 15, 3, 0, 0, 0};
        for (int what = 0; what < told.length; what++) {
            due("told(" + what + ")", x.told(what), told[what]);
        }
        due("told(-1)", x.told(-1), AlongsideLines.OUTSIDE);
        due("told(17)", x.told(17), AlongsideLines.OUTSIDE);
        due("post(0, 0)", x.post(0, 0), 3);
        due("post(0, 1)", x.post(0, 1), 4);
        due("post(1, 0)", x.post(1, 0), 0);
        due("post(1, 1)", x.post(1, 1), 999);
        due("post(2, 0)", x.post(2, 0), 9999);
        due("post(2, 1)", x.post(2, 1), 1);
        due("post(3, 0)", x.post(3, 0), AlongsideLines.UNKNOWN);
        due("post(3, 9)", x.post(3, 9), AlongsideLines.UNKNOWN);
        due("post(-1, 0)", x.post(-1, 0), AlongsideLines.UNKNOWN);
        due("post(0, 2)", x.post(0, 2), AlongsideLines.OUTSIDE);
        due("post(0, -1)", x.post(0, -1), AlongsideLines.OUTSIDE);
    }

    private static void whatQuayChanges() {
        AlongsideLines x = Checks.at("post 4000 500;");
        Checks.plan(x, "at 3 4 5;");
        Checks.tide(x, "hour 5;hour 6;");
        x.log(17);
        x.seed(99);
        Checks.put(x, 1, 2, 3, 4, 5, 6, 1, 2, 3);
        x.put(1, 30000);
        x.heave(1, 0, 0);
        x.put(1, 2);
        x.fast(0, 0, 0, 9999);
        x.go(1);
        x.keep(0);
        x.keep(1);
        due("before: now(12)", x.now(12), 1);
        due("a fault", Checks.quay(x, "gap 0;"), -11);
        due("a fault: told(13)", x.told(13), 1);
        due("a fault: told(16)", x.told(16), 0);
        due("a fault: now(16)", x.now(16), 1);
        due("a fault: now(9)", x.now(9), 1);
        due("a fault: goBack(1)", x.goBack(1), 1);
        due("empty", x.quay(), 0);
        due("empty: fault()", x.fault(), -1);
        due("empty: now(0)", x.now(0), 4500);
        due("empty: now(1)", x.now(1), 3000);
        for (int what = 2; what <= 12; what++) {
            due("empty: now(" + what + ")", x.now(what), 0);
        }
        due("empty: now(16)", x.now(16), 0);
        due("empty: told(13)", x.told(13), 0);
        due("empty: goBack(0)", x.goBack(0), AlongsideLines.NOT);
        due("empty: goBack(1)", x.goBack(1), AlongsideLines.NOT);
        due("empty: told(14)", x.told(14), 1);
        due("empty: told(15)", x.told(15), 2);
        due("empty: clear()", x.clear(), 1);
        // 99 * 1103515245 + 12345, left over by 2 to the 31: what the one draw above made of the seed.
        due("empty: seed(0)", x.seed(0), (99L * 1103515245L + 12345L) % 2147483648L);
        // What a clause told once is as untold again with the next quay.
        Checks.quay(x, "wind 50;");
        due("told(10)", x.told(10), 50);
        Checks.quay(x, "fender 3;");
        due("told(10) anew", x.told(10), 2);
        due("told(12) anew", x.told(12), 3);
    }

    private static void plansAndTides() {
        AlongsideLines x = new AlongsideLines();
        due("plan", Checks.plan(x, " at0 0 6 ; at 999 6 0;"), 2);
        due("plan: told(14)", x.told(14), 2);
        due("plan: fault", Checks.plan(x, "at 1 1 1;hour 1;"), -11);
        due("plan: fault()", x.fault(), 9);
        due("plan: told(14) as it was", x.told(14), 2);
        due("tide", Checks.tide(x, "hour 0;hour 999;hour0;"), 3);
        due("tide: fault()", x.fault(), -1);
        due("tide: told(15)", x.told(15), 3);
        due("tide: fault", Checks.tide(x, "hour 1;at 1 1 1;"), -11);
        due("tide: told(15) as it was", x.told(15), 3);
        due("tide: told(16)", x.told(16), 0);
        x.follow(1);
        due("plan: E", x.now(6), -3);
        due("plan: R", x.now(7), 3);
        due("plan of nothing", x.plan(), 0);
        due("told(14)", x.told(14), 0);
        due("tide of nothing", x.tide(), 0);
        due("told(15)", x.told(15), 0);
    }

    /** A text with a fault: its number and its place. */
    private static void bad(int kind, String text, int number, int place) {
        AlongsideLines x = new AlongsideLines();
        Checks.feed(x, text);
        int answer = kind == QUAY ? x.quay() : kind == PLAN ? x.plan() : x.tide();
        due("'" + text + "'", answer, -10 - number);
        due("'" + text + "' fault()", x.fault(), place);
    }

    private static void good(int kind, String text, int count) {
        AlongsideLines x = new AlongsideLines();
        Checks.feed(x, text);
        due("'" + text + "'", kind == QUAY ? x.quay() : kind == PLAN ? x.plan() : x.tide(), count);
        due("'" + text + "' fault()", x.fault(), -1);
    }

    private static void faultsOfQuays() {
        good(QUAY, "", 0);
        good(QUAY, "   ", 0);
        good(QUAY, "gap0 1;", 0);
        good(QUAY, "  gap  0   1  ;  ", 0);
        good(QUAY, "wind 0099;", 0);
        good(QUAY, "post1 1;post2 1;wind3;", 2);
        bad(QUAY, ";", 1, 0);
        bad(QUAY, "5", 1, 0);
        bad(QUAY, " 12345", 1, 1);
        bad(QUAY, "wind", 1, 4);
        bad(QUAY, "wind  ", 1, 6);
        bad(QUAY, "wind ;", 1, 5);
        bad(QUAY, "wind 5", 1, 6);
        bad(QUAY, "wind 5 5;", 1, 7);
        bad(QUAY, "wind 5 12345;", 1, 7);
        bad(QUAY, "wind 5x;", 1, 6);
        bad(QUAY, "wind x5;", 1, 5);
        bad(QUAY, "wind gap", 1, 5);
        bad(QUAY, "wind 5;;", 1, 7);
        bad(QUAY, "wind 5; ;", 1, 8);
        bad(QUAY, "wind 5;win", 1, 7);
        bad(QUAY, "windy 5;", 1, 0);
        bad(QUAY, "win d 5;", 1, 0);
        bad(QUAY, "Wind 5;", 1, 0);
        bad(QUAY, "winD 5;", 1, 0);
        bad(QUAY, "windD 5;", 1, 4);
        bad(QUAY, "wind\t5;", 1, 4);
        bad(QUAY, "wind 5;\n", 1, 7);
        bad(QUAY, "wind -5;", 1, 5);
        bad(QUAY, "wind 5,", 1, 6);
        bad(QUAY, "at 1 1 1;", 1, 0);
        bad(QUAY, "hour 1;", 1, 0);
        bad(QUAY, "gap 5;", 1, 5);
        bad(QUAY, "gap 5 wind", 1, 6);
        bad(QUAY, "gap 10000 5;", 2, 4);
        bad(QUAY, "gap 00001 5;", 2, 4);
        bad(QUAY, "gap 123456789012 5;", 2, 4);
        bad(QUAY, "gap 5 4;", 2, 6);
        bad(QUAY, "gap 5 5x", 2, 6);
        bad(QUAY, "gap 9999 9999;", 2, 9);
        bad(QUAY, "ship 499 1;", 2, 5);
        bad(QUAY, "ship 9001 1;", 2, 5);
        bad(QUAY, "ship 500 0;", 2, 9);
        bad(QUAY, "ship 500 100;", 2, 9);
        bad(QUAY, "screw 51 1;", 2, 6);
        bad(QUAY, "screw 50 100;", 2, 9);
        bad(QUAY, "wheel 100;", 2, 6);
        bad(QUAY, "slow 51 0 0;", 2, 5);
        bad(QUAY, "slow 50 51 0;", 2, 8);
        bad(QUAY, "slow 50 50 51;", 2, 11);
        bad(QUAY, "wind 100;", 2, 5);
        bad(QUAY, "give 0;", 2, 5);
        bad(QUAY, "give 100;", 2, 5);
        bad(QUAY, "fender 1000;", 2, 7);
        bad(QUAY, "post 10000 1;", 2, 5);
        bad(QUAY, "post 0 0;", 2, 7);
        bad(QUAY, "post 0 1000;", 2, 7);
        bad(QUAY, "wind 5;wind", 3, 7);
        bad(QUAY, "wind 5;gap 0 1; gap 0 1;", 3, 16);
        String[] once = {"gap 0 1;", "ship 500 1;", "screw 0 0;", "wheel 0;", "slow 0 0 0;", "wind 0;", "give 1;", "fender 0;"};
        for (String clause : once) {
            good(QUAY, clause, 0);
            bad(QUAY, clause + clause, 3, clause.length());
        }
        bad(QUAY, "post 7 1;post 8 1;post 7 1;", 4, 23);
        bad(QUAY, "post 7 1;post 007", 4, 14);
        bad(QUAY, "post 7 1;post 7 0", 4, 14);
    }

    private static void faultsOfPlansAndTides() {
        bad(PLAN, "wind 5;", 1, 0);
        bad(PLAN, "at", 1, 2);
        bad(PLAN, "at 5 5;", 1, 6);
        bad(PLAN, "at 5 5 5", 1, 8);
        bad(PLAN, "att 5 5 5;", 1, 0);
        bad(PLAN, "at 1000 0 0;", 2, 3);
        bad(PLAN, "at 0 7 0;", 2, 5);
        bad(PLAN, "at 0 0 7;", 2, 7);
        bad(PLAN, "at 0 0 0;at 0 0 0;", 4, 12);
        bad(PLAN, "at 9 0 0;at 8 0 0;", 4, 12);
        bad(PLAN, "at 999 0 0;at 1000 0 0;", 2, 14);
        good(PLAN, "at0 6 6;at1 0 0;at 999 3 3;", 3);
        bad(TIDE, "hours 5;", 1, 0);
        bad(TIDE, "hour 5 5;", 1, 7);
        bad(TIDE, "hour 1000;", 2, 5);
        good(TIDE, "hour 5;hour 5;", 2);
    }

    private static void limits() {
        StringBuilder posts = new StringBuilder();
        StringBuilder plan = new StringBuilder();
        StringBuilder tide = new StringBuilder();
        for (int k = 0; k < 12; k++) {
            posts.append("post").append(k).append(" 1;");
        }
        for (int k = 0; k < 20; k++) {
            plan.append("at").append(k).append(" 1 1;");
        }
        for (int k = 0; k < 24; k++) {
            tide.append("hour").append(k).append(";");
        }
        good(QUAY, posts.toString(), 12);
        good(PLAN, plan.toString(), 20);
        good(TIDE, tide.toString(), 24);
        bad(QUAY, posts + "post 0 0;", 3, posts.length());
        bad(QUAY, posts + "posts", 1, posts.length());
        bad(PLAN, plan + "at", 3, plan.length());
        bad(TIDE, tide + " hour 1000;", 3, tide.length() + 1);
    }
}
