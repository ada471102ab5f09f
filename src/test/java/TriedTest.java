/** Promises 20 to 25: tried, astern, off, wind, gap, tug. */
public final class TriedTest {
    private static final int OUTSIDE = AlongsideLines.OUTSIDE, NONE = AlongsideLines.NONE;
    private static final String CALM = "gap 0 9999;ship 4000 10;screw 10 0;wheel 0;slow 0 0 0;wind 0;fender 5;post 5000 900;";
    private static final Checks checks = new Checks();

    public static void main(String[] args) {
        trying();
        goingAstern();
        gettingOff();
        winds();
        gaps();
        tugs();
        checks.end();
    }

    private static void due(String call, long got, long want) {
        checks.due(call, got, want);
    }

    private static void trying() {
        int[] known = {0, 1, 2, 3, 4, 5, 9, 10, 11, 15};
        AlongsideLines x = Checks.at("ship 4000 20;wind 3;fender 0;post 3000 60;post 6000 400;");
        Checks.plan(x, "at 3 6 5;at 20 1 0;");
        Checks.put(x, 4500, 500, 3000, 500, 900, 10, 1, 1, 9);
        x.fast(1, 80, 0, -1);
        x.fast(4, -80, 1, -1);
        x.go(2);
        for (int n = 1; n <= 60; n += 7) {
            x.keep(0);
            long[] tried = new long[known.length];
            for (int i = 0; i < known.length; i++) {
                tried[i] = x.tried(n, known[i]);
            }
            long lines = x.tried(n, 17);
            x.follow(n);
            for (int i = 0; i < known.length; i++) {
                due("tried(" + n + ", " + known[i] + ")", tried[i], x.now(known[i]));
            }
            due("tried(" + n + ", 17)", lines, x.now(16));
            x.goBack(0);
        }
        // The line of 60 parts, that of 400 holds.
        due("lines before", x.now(16), 2);
        x.veer(1, 0);
        due("tried lines", x.tried(1, 17), 1);
        due("lines after", x.now(16), 2);
        for (int what : new int[] {-1, 6, 7, 8, 12, 13, 14, 16, 18}) {
            due("tried(1, " + what + ")", x.tried(1, what), OUTSIDE);
        }
        for (int n : new int[] {0, -1, 601, Integer.MAX_VALUE, Integer.MIN_VALUE}) {
            due("tried(" + n + ", 0)", x.tried(n, 0), OUTSIDE);
        }
        due("tried(600, 9)", x.tried(600, 9), 602);
    }

    private static void goingAstern() {
        // 5 to the quay each second: the fender stops her in the 161st, and SAFE she lies from then on.
        AlongsideLines x = Checks.at(CALM);
        Checks.put(x, 5000, 800, 0, 0, 500);
        due("in 161 seconds", x.astern(), 101);
        x.put(1, 895);
        due("in 180 seconds", x.astern(), 120);
        x.put(1, 900);
        due("in 181 seconds", x.astern(), NONE);
        x.put(1, 299);
        x.put(4, 0);
        due("SAFE now", x.astern(), 0);
        // At fender's 5 there is no HARM, at 6 there is.
        x.put(4, 600);
        due("knocks hard", x.astern(), NONE);
        // 300 ahead is stopped by E -2 within 15 seconds: at 0 the engine stops, too.
        Checks.put(x, 5000, 0, 0, 300, 0);
        due("stops", x.astern(), 0);
        // 60 seconds of E -2 take 1200 off: 1299 is the most that comes below 100.
        x.put(3, 1299);
        due("nearly stops", x.astern(), 0);
        x.put(3, 1300);
        due("does not stop", x.astern(), NONE);
        // Going ahead by E 3 is slowed down by E -2 all the less the later.
        x.put(6, 3);
        due("faster and faster", x.astern(), NONE);
        // Going astern by 1500 the engine stops at once; with E 3 it takes 47 seconds to come below 100.
        Checks.put(x, 7000, 0, 0, -1500, 0, 0, 0);
        due("astern already", x.astern(), NONE);
        x.put(6, 3);
        due("ahead against it", x.astern(), 47);
        due("nothing went by", x.now(9), 0);
        due("E as it was", x.now(6), 3);
        // Stopped is stopped: a line pulls her ahead again and E is 0 none the less, so 0 does not do.
        x = Checks.at("gap 0 9999;ship 4000 10;screw 20 0;wheel 0;slow 0 0 0;wind 0;post 9000 900;");
        Checks.put(x, 5000, 0, 0, 0);
        x.fast(0, 0, 0, 3950);
        due("pulled ahead", x.astern(), 10);
        x.veer(0, 4000);
        due("not pulled", x.astern(), 0);
        // At PACE 0 the engine is stopped at once: E -2 would be 100 astern. At PACE 1 it goes astern and walks her.
        x = Checks.at("gap 0 9999;ship 4000 10;screw 50 0;wheel 0;slow 0 0 0;wind 0;");
        Checks.put(x, 5000, 0, 0, 0);
        due("PACE 0", x.astern(), 0);
        x = Checks.at("gap 0 9999;ship 4000 1;screw 1 99;wheel 0;slow 0 0 0;wind 0;fender 0;");
        Checks.put(x, 5000, 100, 0, 0);
        due("PACE 0 walks nothing", x.astern(), 0);
        x.put(3, 1);
        due("PACE 1 walks", x.astern(), NONE);
        // R is 0 while one goes astern.
        x = Checks.at("gap 0 9999;ship 4000 10;screw 10 0;wheel 99;slow 0 0 0;wind 0;");
        Checks.put(x, 5000, 0, 0, 300, 0, 0, 0, 3);
        due("wheel amidships", x.astern(), 0);
    }

    private static void gettingOff() {
        // 10 ahead each second, then E -3 stops her within 147 more: 85 * 10 + 147 is within 1000, 86 * 10 + 147 not.
        AlongsideLines x = Checks.at("gap 0 9000;ship 4000 30;screw 10 0;wheel 0;slow 0 0 0;wind 0;fender 5;");
        Checks.put(x, 6000, 3000, 0, 1000);
        due("1000 to go", x.off(), 85);
        x.put(0, 6853);
        due("147 to go", x.off(), 0);
        x.put(0, 6854);
        due("146 to go", x.off(), NONE);
        x.put(0, 4500);
        due("room enough", x.off(), 120);
        due("nothing went by", x.now(9), 0);
        // 1 astern a second, 150 to go: 120 seconds and 30 before them.
        x = Checks.at("gap 0 9000;ship 4000 10;screw 0 0;slow 0 0 0;wind 0;");
        Checks.put(x, 2150, 3000, 0, -100);
        due("150 astern to go", x.off(), 30);
        x.put(0, 2120);
        due("120 astern to go", x.off(), 0);
        x.put(0, 2119);
        due("119 astern to go", x.off(), NONE);
        // HARM of before does not count.
        x = Checks.at("gap 0 9000;ship 4000 30;screw 10 0;wheel 0;slow 0 0 0;wind 0;fender 5;");
        Checks.put(x, 6500, 100, 0, 1000, 2000);
        x.go(6);
        due("harmed", x.now(10) > 0 ? 1 : 0, 1);
        Checks.put(x, 6000, 3000, 0, 1000, 0, 0, 0);
        due("since now", x.off(), 85);
        // R 0: the wheel does not turn her while she goes off.
        x = Checks.at("gap 0 9000;ship 4000 30;screw 0 0;wheel 99;slow 0 0 0;wind 0;fender 0;");
        Checks.put(x, 4500, 30, 0, 100, 0, 0, 0, 1);
        due("turned before", x.off() < 120 ? 1 : 0, 1);
        due("not turned after", x.off() >= 0 ? 1 : 0, 1);
    }

    private static void winds() {
        // Without slowing she has n times F of DRIFT: less than 100 is SAFE.
        AlongsideLines x = Checks.at(CALM);
        Checks.put(x, 5000, 0);
        due("wind(1)", x.wind(1), 99);
        due("wind(2)", x.wind(2), 49);
        due("wind(10)", x.wind(10), 9);
        due("wind(99)", x.wind(99), 1);
        due("wind(100)", x.wind(100), 0);
        due("wind(300)", x.wind(300), 0);
        due("told(10) as it was", x.told(10), 0);
        x.put(4, 50);
        due("99 is the most", x.wind(1), 99);
        x.put(4, 0);
        x.put(1, 300);
        due("not SAFE at all", x.wind(1), NONE);
        // Too much wind and too little: DRIFT 500 needs between 41 and 59 in 10 seconds.
        Checks.put(x, 5000, 290, 0, 0, 500);
        due("wind against DRIFT", x.wind(10), 59);
        for (int n : new int[] {0, -1, 301, Integer.MAX_VALUE, Integer.MIN_VALUE}) {
            due("wind(" + n + ")", x.wind(n), OUTSIDE);
            due("gap(" + n + ")", x.gap(n), OUTSIDE);
            due("tug(" + n + ")", x.tug(n), OUTSIDE);
        }
        // By the plan: E 3 for 2 seconds is 60, for 4 seconds 120.
        Checks.put(x, 5000, 0, 0, 0, 0);
        Checks.plan(x, "at 1 6 3;at 3 3 3;");
        due("by the plan", x.wind(5), 19);
        Checks.plan(x, "at 1 6 3;at 5 3 3;");
        due("by another plan", x.wind(5), NONE);
        due("E as it was", x.now(6), 0);
    }

    private static void gaps() {
        // At rest she is shoved by the gap's end without HARM: as long as she fits.
        AlongsideLines x = Checks.at("gap 0 9000;ship 4000 10;slow 0 0 0;wind 0;");
        Checks.put(x, 4500, 0);
        due("gap(5)", x.gap(5), 4000);
        x = Checks.at("gap 20 9000;ship 4000 10;slow 0 0 0;wind 0;");
        Checks.put(x, 4500, 0);
        due("gap(5) in fifties", x.gap(5), 4030);
        due("told(0) as it was", x.told(0), 20);
        // Going astern by 99 there is never HARM, by 150 from A on: stern at 2500, then 2499, ..
        x = Checks.at("gap 0 9000;ship 4000 10;screw 10 0;slow 0 0 0;wind 0;");
        Checks.plan(x, "at 0 3 3;at 6 6 3;at 9 3 3;");
        Checks.put(x, 4500, 0, 0, -150);
        due("gap by the plan", x.gap(10), 6550);
        x.put(1, 300);
        due("not SAFE", x.gap(10), NONE);
        // One in fifties alone: A itself.
        x = Checks.at("gap 100 150;ship 500 10;slow 0 0 0;wind 0;");
        x.put(1, 0);
        due("longer than the gap", x.gap(1), NONE);
        x = Checks.at("gap 0 500;ship 500 10;slow 0 0 0;wind 0;");
        Checks.put(x, 250, 0);
        due("just as long", x.gap(1), 500);
    }

    private static void tugs() {
        // Q a second against a wind of 9: 20 seconds of 4 too little are -80, of 5 -100.
        AlongsideLines x = Checks.at("gap 0 9999;ship 4000 10;slow 0 0 0;wind 9;fender 5;");
        Checks.put(x, 5000, 0);
        due("tug(20)", x.tug(20), 5);
        due("tug(1)", x.tug(1), 0);
        due("Q as it was", x.now(8), 0);
        x.put(8, 99);
        due("Q in its place", x.tug(20), 5);
        due("Q as it was again", x.now(8), 99);
        x = Checks.at("gap 0 9999;ship 4000 10;slow 0 0 0;wind 99;");
        Checks.put(x, 5000, 0);
        due("a storm", x.tug(10), 90);
        x.put(4, -99);
        due("99 is the most", x.tug(1), 99);
        x.put(4, -100);
        due("100 is too much", x.tug(1), NONE);
        x = Checks.at("gap 0 9999;ship 4000 99;slow 0 0 0;wind 99;");
        Checks.put(x, 5000, 0);
        due("too weak", x.tug(10), NONE);
    }
}
