/** Promises 13 to 19: fast, heave, odds, veer, cast, line, does; and what lines do in a second. */
public final class LinesTest {
    private static final int UNKNOWN = AlongsideLines.UNKNOWN, OUTSIDE = AlongsideLines.OUTSIDE, NOT = AlongsideLines.NOT;
    private static final String QUAY = "gap 0 9999;ship 4000 10;screw 10 0;wheel 0;slow 0 0 0;wind 0;post 6300 50;post 3700 999;";
    private static final Checks checks = new Checks();

    public static void main(String[] args) {
        making();
        refusals();
        pulling();
        parting();
        heaving();
        effects();
        checks.end();
    }

    private static void due(String call, long got, long want) {
        checks.due(call, got, want);
    }

    /** Her bow is at 6000, 400 off: 300 and 400 from post 0 make 500. */
    private static AlongsideLines near() {
        AlongsideLines x = Checks.at(QUAY);
        Checks.put(x, 4000, 400);
        return x;
    }

    private static void making() {
        AlongsideLines x = near();
        due("fast as DISTANCE is", x.fast(0, 100, 0, -1), 500);
        due("fast 0", x.fast(5, -100, 1, 0), 0);
        due("fast 9999", x.fast(1, 7, 1, 9999), 9999);
        due("lines", x.now(16), 3);
        long[][] lines = {{100, 0, 500, 500, 0}, {7, 1, 9999, 594, 0}, {}, {}, {}, {-100, 1, 0, 1746, 1746}};
        for (int l = 0; l < 6; l++) {
            for (int what = 0; what < 5; what++) {
                due("line(" + l + ", " + what + ")", x.line(l, what), lines[l].length == 0 ? UNKNOWN : lines[l][what]);
            }
        }
        due("veer", x.veer(0, 450), 500);
        due("veered", x.line(0, 2), 450);
        due("veered: PULL", x.line(0, 4), 50);
        due("veer(0, 9999)", x.veer(0, 9999), 450);
        due("veer(0, 0)", x.veer(0, 0), 9999);
        due("cast", x.cast(0), 0);
        due("cast again", x.cast(0), UNKNOWN);
        due("lines left", x.now(16), 2);
        due("fast again", x.fast(0, 100, 0, 3), 3);
        // As DISTANCE is may be more than can be told.
        x = Checks.at(QUAY);
        x.put(1, 30000);
        x.put(0, 6300);
        due("far", x.fast(2, 0, 0, -1), 30000);
        due("far: PULL", x.line(2, 4), 0);
        due("veer far", x.veer(2, 9999), 30000);
        due("far: PULL veered", x.line(2, 4), 20001);
        // ARM is cut: 251 * 33 / 100 is 82, and -82 the other way; so is the part of ANGLE.
        x = Checks.at("ship 503 10;give 99;post 4500 9;");
        Checks.put(x, 4500, 0, -45000);
        x.fast(0, 33, 0, 1);
        // 82 along, 82 * 45000 / 57296 off.
        due("cut: DISTANCE", x.line(0, 3), 104);
        due("cut: PULL", x.line(0, 4), 103 * 99 / 10);
        x.fast(1, -33, 0, 1);
        due("held off: DISTANCE", x.line(1, 3), 82);
    }

    private static void refusals() {
        AlongsideLines x = near();
        due("fast(-1)", x.fast(-1, 0, 0, 0), UNKNOWN);
        due("fast(6)", x.fast(6, 0, 0, 0), UNKNOWN);
        due("fast to post 2", x.fast(0, 0, 2, 0), UNKNOWN);
        due("fast to post -1", x.fast(0, 0, -1, 0), UNKNOWN);
        due("fast from 101", x.fast(0, 101, 0, 0), OUTSIDE);
        due("fast from -101", x.fast(0, -101, 0, 0), OUTSIDE);
        due("fast by -2", x.fast(0, 0, 0, -2), OUTSIDE);
        due("fast by 10000", x.fast(0, 0, 0, 10000), OUTSIDE);
        due("no line", x.now(16), 0);
        x.fast(0, 0, 0, 7000);
        due("fast already", x.fast(0, 0, 0, 0), NOT);
        due("fast already, wrong place", x.fast(0, 101, 0, 0), OUTSIDE);
        due("fast already, wrong post", x.fast(0, 101, 2, 0), UNKNOWN);
        due("as it was", x.line(0, 2), 7000);
        x.seed(5);
        due("heave(-1)", x.heave(-1, 0, 0), UNKNOWN);
        due("heave(6)", x.heave(6, 0, 0), UNKNOWN);
        due("heave to post 2", x.heave(0, 101, 2), UNKNOWN);
        due("heave from 101", x.heave(0, 101, 0), OUTSIDE);
        due("heave from -101", x.heave(1, -101, 0), OUTSIDE);
        due("heave, fast already", x.heave(0, 0, 0), NOT);
        due("no draw", x.seed(5), 5);
        due("none fell", x.now(12), 0);
        due("odds to post 2", x.odds(101, 2), UNKNOWN);
        due("odds from 101", x.odds(101, 0), OUTSIDE);
        due("odds from -101", x.odds(-101, 0), OUTSIDE);
        due("does to post -1", x.does(101, -1), UNKNOWN);
        due("does from 101", x.does(101, 0), OUTSIDE);
        due("does from -101", x.does(-101, 0), OUTSIDE);
        for (int l : new int[] {-1, 1, 6, Integer.MAX_VALUE, Integer.MIN_VALUE}) {
            due("veer(" + l + ")", x.veer(l, -1), UNKNOWN);
            due("cast(" + l + ")", x.cast(l), UNKNOWN);
            due("line(" + l + ")", x.line(l, 9), UNKNOWN);
        }
        due("veer(0, -1)", x.veer(0, -1), OUTSIDE);
        due("veer(0, 10000)", x.veer(0, 10000), OUTSIDE);
        due("line(0, -1)", x.line(0, -1), OUTSIDE);
        due("line(0, 5)", x.line(0, 5), OUTSIDE);
    }

    /** PULL 50 by 300 along, 400 off, of 500: 30 and 40, times 10 / 10; 40 * 2000 / 10 / 10. */
    private static void pulling() {
        AlongsideLines x = near();
        x.fast(0, 100, 0, 450);
        due("go(1)", x.go(1), 0);
        due("PACE", x.now(3), 30);
        due("DRIFT", x.now(4), 40);
        due("TURN", x.now(5), 800);
        due("ANGLE", x.now(2), 800);
        // Two lines, one from the stern astern: its share of TURN is the other way.
        x = near();
        x.fast(0, 100, 0, 450);
        x.fast(3, -100, 1, 1700);
        // 1700 along, 400 off: 1746; PULL 46: along 44, off 10.
        due("go(1) with two", x.go(1), 0);
        due("PACE of two", x.now(3), 30 + 44);
        due("DRIFT of two", x.now(4), 40 + 10);
        due("TURN of two", x.now(5), 800 - 200);
        // Cut in the order told: PULL 7 * 300 / 500 is 4, 4 * 10 / 99 is 0.
        x = Checks.at("gap 0 9999;ship 4000 99;slow 0 0 0;wind 0;post 6300 50;");
        Checks.put(x, 4000, 400);
        x.fast(0, 100, 0, 493);
        x.go(1);
        due("cut PACE", x.now(3), 0);
        due("cut DRIFT", x.now(4), 0);
        due("cut TURN", x.now(5), 5 * 2000 / 99 / 10);
        // At DISTANCE 0 nothing pulls and nothing is divided by.
        x = Checks.at("ship 4000 10;slow 0 0 0;wind 0;post 4500 50;");
        x.put(1, 0);
        due("at the post", x.fast(0, 0, 0, -1), 0);
        due("go(5)", x.go(5), 0);
        due("PACE at the post", x.now(3), 0);
        // At DISTANCE 1 it pulls with 1 * 99 / 10.
        x = Checks.at("ship 4000 10;slow 0 0 0;wind 0;give 99;post 4500 50;");
        Checks.put(x, 4500, 1);
        x.fast(0, 0, 0, 0);
        x.go(1);
        due("DRIFT at DISTANCE 1", x.now(4), 9);
    }

    private static void parting() {
        AlongsideLines x = near();
        x.fast(0, 100, 0, 450);
        due("as strong as the PULL", x.go(1), 0);
        due("lines", x.now(16), 1);
        x = near();
        x.fast(0, 100, 0, 449);
        due("PULL", x.line(0, 4), 51);
        due("stronger: parts", x.go(1), 1);
        due("parted: PACE", x.now(3), 0);
        due("parted: TURN", x.now(5), 0);
        due("parted: line", x.line(0, 0), UNKNOWN);
        x = near();
        for (int l = 0; l < 6; l++) {
            x.fast(l, 100, 0, l < 4 ? 0 : 500);
        }
        due("four part", x.follow(3), 4);
        due("two are left", x.now(16), 2);
        due("the fifth", x.line(4, 2), 500);
    }

    private static void heaving() {
        AlongsideLines x = near();
        // 500 / 50 is 10; 549 / 50 too; 550 is 11.
        due("odds", x.odds(100, 0), 90);
        x.put(1, 0);
        x.put(0, 4300);
        due("odds at the post", x.odds(100, 0), 100);
        x.put(0, 4251);
        due("odds at 49", x.odds(100, 0), 100);
        x.put(0, 4250);
        due("odds at 50", x.odds(100, 0), 99);
        x.put(1, 30000);
        due("odds far off", x.odds(100, 0), 0);
        x = near();
        long seed = 0;
        for (int i = 0; i < 100; i++) {
            x.put(1, 50 + 40 * i);
            seed = (seed * 1103515245L + 12345L) % 2147483648L;
            long distance = (long) Math.sqrt(300.0 * 300 + (50 + 40.0 * i) * (50 + 40.0 * i));
            boolean holds = seed / 65536 % 100 < 100 - distance / 50;
            long fell = x.now(12);
            due("heave " + i, x.heave(0, 100, 0), holds ? 1 : 0);
            due("fell " + i, x.now(12), holds ? fell : fell + 1);
            due("cast " + i, x.cast(0), holds ? distance : UNKNOWN);
        }
        due("seed", x.seed(0), seed);
        // Draws of seed 0: 0, 68, 88, 17 of a hundred; odds of 68 do not do with 68, odds of 69 do.
        x = Checks.at("ship 500 10;post 4500 9;");
        x.put(1, 1600);
        due("odds 68", x.odds(0, 0), 68);
        due("draw 0", x.heave(0, 0, 0), 1);
        due("draw 68", x.heave(1, 0, 0), 0);
        due("draw 88", x.heave(1, 0, 0), 0);
        due("draw 17", x.heave(1, 0, 0), 1);
        x.seed(0);
        x.put(1, 1599);
        due("odds 69", x.odds(0, 0), 69);
        x.heave(2, 0, 0);
        due("draw 68 of 69", x.heave(3, 0, 0), 1);
        due("N", x.line(3, 2), 1599);
        due("fell", x.now(12), 2);
        // As long as it can be, it never holds.
        x.put(1, 5000);
        due("no odds", x.odds(0, 0), 0);
        due("draw with no odds", x.heave(4, 0, 0), 0);
    }

    private static void effects() {
        AlongsideLines x = near();
        due("ahead, bow in", x.does(100, 0), 1 + 4 + 8);
        due("astern, bow in", x.does(100, 1), 2 + 4 + 8);
        due("ahead, stern in", x.does(-100, 1), 1 + 4 + 16);
        due("astern, middle", x.does(0, 1), 2 + 4);
        due("straight in", x.does(-15, 1), 4 + 16);
        x.put(1, 0);
        due("along alone", x.does(100, 0), 1);
        due("nothing", x.does(-15, 1), 0);
        x.put(1, 1);
        due("1 off, from 1", x.does(1, 1), 2 + 4 + 8);
        due("1 off, from -1", x.does(-1, 1), 2 + 4 + 16);
        x.put(0, 3999);
        due("1 ahead", x.does(-15, 1), 1 + 4 + 16);
        x.put(0, 4001);
        due("1 astern", x.does(-15, 1), 2 + 4 + 16);
        Checks.put(x, 4000, 0);
        x.put(2, -1000);
        due("bow off again", x.does(100, 0), 1 + 4 + 8);
        due("stern held", x.does(-100, 1), 1);
    }
}
