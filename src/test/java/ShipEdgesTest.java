/** Each sentence of the document on the ship that names an edge: 2 THE SHIP; promises 9 to 12. */
public final class ShipEdgesTest {
    private static final int OUTSIDE = AlongsideLines.OUTSIDE;
    private static final int LEAST = Integer.MIN_VALUE, MOST = Integer.MAX_VALUE;
    /** HALF is 2000, M is 10, nothing moves her but what is put. */
    private static final String CALM = "gap 0 9999;ship 4000 10;screw 0 0;wheel 0;slow 0 0 0;wind 0;fender 5;";
    private static final Checks checks = new Checks();

    public static void main(String[] args) {
        half();
        placesOff();
        angleHeld();
        distances();
        pullAtLeastNothing();
        partsAboveStrength();
        partsBeforeAllElse();
        paceComes();
        driftComes();
        turnComes();
        turnByPaceOfBefore();
        walkAsternAlone();
        linesAdd();
        distanceAtLeastOne();
        paceHeld();
        driftHeld();
        turnHeld();
        xMoves();
        yMoves();
        secondsCounted();
        knocksBelowQuay();
        knocksAboveFender();
        widestFender();
        paceTogether();
        knocksAboveNothing();
        turnOtherWay();
        bowThenStern();
        harmCut();
        gapAtB();
        gapAtA();
        gapBoth();
        gapLast();
        farOff();
        safePaces();
        safeAngle();
        safeOff();
        safeAlong();
        putting();
        puttingWhatItWas();
        nows();
        going();
        following();
        followingSeconds();
        checks.end();
    }

    private static void sentence(String words) {
        checks.sentence(words);
    }

    private static void due(String call, long got, long want) {
        checks.due(call, got, want);
    }

    /** At a quay, put by values, a second later. */
    private static AlongsideLines second(String quay, int... values) {
        AlongsideLines x = Checks.at(quay);
        Checks.put(x, values);
        x.go(1);
        return x;
    }

    private static void nowIs(String when, AlongsideLines x, long... due) {
        for (int what = 0; what < due.length; what++) {
            due(when + ": now(" + what + ")", x.now(what), due[what]);
        }
    }

    // -- places and lines

    private static void half() {
        sentence("HALF is L / 2. Of a place p of her (-100 the stern .. 100 the bow, of a hundred of HALF): ARM is HALF times p / 100");
        // Which X is the last at which her bow is within B: 9999 less HALF.
        int[][] halves = {{500, 250}, {501, 250}, {502, 251}, {503, 251}, {8999, 4499}, {9000, 4500}};
        for (int[] half : halves) {
            AlongsideLines x = Checks.at("gap 0 9999;ship " + half[0] + " 9;");
            Checks.put(x, 9999 - half[1], 0);
            due("L " + half[0] + " in", x.now(15), 1);
            x.put(0, 10000 - half[1]);
            due("L " + half[0] + " out", x.now(15), 0);
            x.put(0, half[1]);
            due("L " + half[0] + " stern in", x.now(15), 1);
            x.put(0, half[1] - 1);
            due("L " + half[0] + " stern out", x.now(15), 0);
        }
        // HALF 251: cut towards 0 on both sides.
        int[][] arms = {{100, 251}, {99, 248}, {39, 97}, {33, 82}, {1, 2}, {0, 0}, {-1, -2}, {-33, -82}, {-39, -97}, {-99, -248}, {-100, -251}};
        for (int[] arm : arms) {
            AlongsideLines x = Checks.at("ship 503 9;post 5000 9;");
            Checks.put(x, 5000 - arm[1], 0);
            due("ARM of " + arm[0], x.does(arm[0], 0), 0);
            due("DISTANCE from " + arm[0], x.fast(0, arm[0], 0, -1), 0);
            x.put(0, 5000 - arm[1] - 1);
            due("one astern of it", x.does(arm[0], 0), 1);
            x.put(0, 5000 - arm[1] + 1);
            due("one ahead of it", x.does(arm[0], 0), 2);
        }
    }

    private static void placesOff() {
        sentence("off it at Y less ARM times ANGLE / 57296, held to 0 or more");
        // 2000 * 28648 / 57296 is 1000.
        int[][] offs = {{1001, 28648, 1, 2001}, {1000, 28648, 0, 2000}, {999, 28648, 0, 1999}, {0, 28648, 0, 1000},
            {1001, -28648, 2001, 1}, {1000, -28648, 2000, 0}, {999, -28648, 1999, 0}, {0, 0, 0, 0}, {30000, 0, 30000, 30000},
            {10, 28, 10, 10}, {10, 29, 9, 11}, {10, -28, 10, 10}, {10, -29, 11, 9}, {0, 45000, 0, 1570}, {0, -45000, 1570, 0}};
        for (int[] off : offs) {
            AlongsideLines x = Checks.at(CALM);
            Checks.put(x, 5000, off[0], off[1]);
            due("Y " + off[0] + ", ANGLE " + off[1] + ": bow", x.now(13), off[2]);
            due("Y " + off[0] + ", ANGLE " + off[1] + ": stern", x.now(14), off[3]);
        }
        // 57296 and no less: 500 * 44920 is 391 of it, and would be 392 of 57295.
        AlongsideLines x = Checks.at("gap 0 9999;ship 1000 10;");
        Checks.put(x, 5000, 1000, 44920);
        due("just below 392: bow", x.now(13), 609);
        due("just below 392: stern", x.now(14), 1391);
    }

    private static void angleHeld() {
        sentence("ANGLE (bow to the quay is above 0; held to -45000 .. 45000)");
        for (int sign : new int[] {1, -1}) {
            due("44999", second(CALM, 5000, 20000, 44990 * sign, 0, 0, 9 * sign).now(2), 44999 * sign);
            due("45000", second(CALM, 5000, 20000, 44990 * sign, 0, 0, 10 * sign).now(2), 45000 * sign);
            due("45001", second(CALM, 5000, 20000, 44990 * sign, 0, 0, 11 * sign).now(2), 45000 * sign);
            AlongsideLines x = second(CALM, 5000, 20000, 45000 * sign, 0, 0, 5000 * sign);
            due("50000", x.now(2), 45000 * sign);
            due("TURN stays", x.now(5), 5000 * sign);
        }
    }

    private static void distances() {
        sentence("DISTANCE: the whole root (cut) of the squares of the way along and of the way off the quay, both together.");
        int[][] ways = {{0, 0, 0}, {0, 1, 1}, {1, 0, 1}, {1, 1, 1}, {2, 2, 2}, {2, 3, 3}, {3, 4, 5}, {4, 4, 5}, {20, 21, 29}, {20, 20, 28},
            {300, 400, 500}, {299, 400, 499}, {301, 400, 500}, {4999, 0, 4999}, {0, 30000, 30000}, {1, 30000, 30000}, {245, 30000, 30001}, {244, 30000, 30000},
            {4999, 30000, 30413}, {119, 120, 169}, {119, 119, 168},
            {8, 4, 8}, {12, 12, 16}, {18, 6, 18}, {4, 8, 8}, {6, 18, 18}, {1, 2, 2}, {1, 3, 3}, {70, 70, 98}, {408, 408, 576}, {2378, 2378, 3362}};
        for (int[] way : ways) {
            for (int side : new int[] {1, -1}) {
                AlongsideLines x = Checks.at(CALM + "post 5000 9;");
                Checks.put(x, 5000 + side * way[0], way[1]);
                due(way[0] + " along, " + way[1] + " off", x.fast(0, 0, 0, -1), way[2]);
                due(way[0] + " along, " + way[1] + " off", x.line(0, 3), way[2]);
            }
        }
    }

    private static void pullAtLeastNothing() {
        sentence("PULL: (DISTANCE less N) times G / 10, 0 at least.");
        int[][] pulls = {{10, 101, 0}, {10, 100, 0}, {10, 99, 1}, {9, 99, 0}, {9, 98, 1}, {1, 91, 0}, {1, 90, 1}, {99, 100, 0}, {99, 99, 9},
            {99, 9999, 0}, {99, 0, 990}, {1, 0, 10}, {1, 9999, 0}, {19, 99, 1}, {20, 99, 2}};
        for (int[] pull : pulls) {
            AlongsideLines x = Checks.at(CALM + "give " + pull[0] + ";post 5000 999;");
            Checks.put(x, 5000, 100);
            x.fast(0, 0, 0, pull[1]);
            due("G " + pull[0] + ", N " + pull[1], x.line(0, 4), pull[2]);
            x.go(1);
            due("G " + pull[0] + ", N " + pull[1] + ": DRIFT", x.now(4), pull[2] > 999 ? 0 : pull[2]);
        }
    }

    private static void partsAboveStrength() {
        sentence("A line whose PULL is above its POST's strength PARTS: it is no line any more.");
        for (int strength : new int[] {1, 50, 999}) {
            for (int pull : new int[] {strength - 1, strength, strength + 1}) {
                AlongsideLines x = Checks.at(CALM + "post 5000 " + strength + ";");
                Checks.put(x, 5000, 2000);
                x.fast(3, 0, 0, 2000 - pull);
                due("PULL", x.line(3, 4), pull);
                boolean parts = pull > strength;
                due("PULL " + pull + " of " + strength, x.go(1), parts ? 1 : 0);
                due("lines", x.now(16), parts ? 0 : 1);
                due("line(3, 2)", x.line(3, 2), parts ? AlongsideLines.UNKNOWN : 2000 - pull);
                due("DRIFT", x.now(4), parts ? 0 : pull);
                due("again", x.fast(3, 0, 0, 9), parts ? 9 : AlongsideLines.NOT);
            }
        }
    }

    private static void partsBeforeAllElse() {
        sentence("A SECOND: first lines are looked at, by numbers: such as PART go. Then by all as it is then");
        // 100 to go in this second: it is only with the next that the line is looked at again.
        AlongsideLines x = Checks.at(CALM + "post 4000 50;");
        Checks.put(x, 4000, 0, 0, 10000);
        due("N", x.fast(0, 0, 0, -1), 0);
        due("the first second", x.go(1), 0);
        due("PULL by then", x.line(0, 4), 100);
        due("the second second", x.go(1), 1);
        due("PACE", x.now(3), 10000);
        // One that parts does not pull, others that hold do: 50 of each.
        x = Checks.at(CALM + "post 5000 50;post 5001 999;");
        Checks.put(x, 5000, 1000);
        x.fast(0, 0, 0, 950);
        x.fast(1, 0, 0, 949);
        x.fast(2, 0, 0, 0);
        x.fast(5, 0, 0, 950);
        due("two part", x.go(1), 2);
        due("DRIFT of two", x.now(4), 100);
        due("the first holds", x.line(0, 2), 950);
        due("the last holds", x.line(5, 2), 950);
        due("1 is gone", x.line(1, 0), AlongsideLines.UNKNOWN);
        due("2 is gone", x.line(2, 0), AlongsideLines.UNKNOWN);
    }

    // -- what comes in a second

    private static void paceComes() {
        sentence("to PACE come E times P, less PACE times D / 100");
        int[][] slows = {{2, 49, 49}, {2, 50, 49}, {2, 99, 98}, {2, -49, -49}, {2, -50, -49}, {50, 1, 1}, {50, 2, 1}, {50, 3, 2}, {50, -1, -1}, {50, -3, -2},
            {0, 20000, 20000}, {50, 20000, 10000}, {50, -20000, -10000}};
        for (int[] slow : slows) {
            AlongsideLines x = second("gap 0 9999;ship 500 9;slow " + slow[0] + " 0 0;wind 0;", 5000, 3000, 0, slow[1]);
            due("D " + slow[0] + ", PACE " + slow[1], x.now(3), slow[2]);
        }
        for (int e = -3; e <= 3; e++) {
            for (int push : new int[] {0, 1, 50}) {
                AlongsideLines x = second("gap 0 9999;ship 500 9;slow 0 0 0;wind 0;screw " + push + " 0;", 5000, 3000, 0, 0, 0, 0, e);
                due("E " + e + ", P " + push, x.now(3), e * push);
            }
        }
    }

    private static void driftComes() {
        sentence("to DRIFT Q times 10 / M (a TUG that pushes with Q; 0 at first), less F (the wind blows off the quay), less DRIFT times S / 100");
        int[][] tugs = {{1, 99, 990}, {1, 0, 0}, {30, 2, 0}, {30, 3, 1}, {30, 5, 1}, {30, 6, 2}, {99, 9, 0}, {99, 10, 1}, {99, 99, 10}};
        for (int[] tug : tugs) {
            AlongsideLines x = Checks.at("ship 500 " + tug[0] + ";slow 0 0 0;wind 0;");
            due("Q at first", x.put(8, tug[1]), 0);
            x.go(1);
            due("M " + tug[0] + ", Q " + tug[1], x.now(4), tug[2]);
        }
        for (int wind : new int[] {0, 1, 99}) {
            due("F " + wind, second("slow 0 0 0;wind " + wind + ";", 4500, 3000).now(4), -wind);
        }
        int[][] slows = {{10, 9, 9}, {10, 10, 9}, {10, -9, -9}, {10, -10, -9}, {50, 1, 1}, {50, 2, 1}, {50, -3, -2}, {0, 20000, 20000}, {50, -20000, -10000}};
        for (int[] slow : slows) {
            AlongsideLines x = second("slow 0 " + slow[0] + " 0;wind 0;", 4500, 3000, 0, 0, slow[1]);
            due("S " + slow[0] + ", DRIFT " + slow[1], x.now(4), slow[2]);
        }
        // Each part is cut by itself: 29 * 10 / 30 is 9, 19 * 10 / 100 is 1.
        due("parts", second("ship 500 30;slow 0 10 0;wind 5;", 4500, 3000, 0, 0, 19, 0, 0, 0, 29).now(4), 19 + 9 - 5 - 1);
    }

    private static void turnComes() {
        sentence("to TURN R times PACE / 100 times wheel / M, less TURN times T / 100");
        int[][] wheels = {{99, 1, 3, 33, 0}, {99, 1, 3, 34, 99}, {99, 1, -3, 33, 0}, {99, 1, -3, 34, -99}, {99, 1, 3, -33, 0}, {99, 1, 3, -34, -99},
            {99, 1, -3, -34, 99}, {2, 1, 1, 150, 2}, {2, 1, 1, 199, 2}, {2, 1, 1, 200, 4}, {1, 2, 1, 100, 0}, {1, 2, 1, 200, 1}, {1, 2, 1, 300, 1},
            {1, 2, 1, -300, -1}, {1, 2, -1, 300, -1}, {99, 99, 1, 100, 1}, {98, 99, 1, 100, 0}, {0, 1, 3, 20000, 0}, {99, 1, 0, 20000, 0}};
        for (int[] wheel : wheels) {
            String quay = "gap 0 9999;ship 500 " + wheel[1] + ";slow 0 0 0;wind 0;screw 0 0;wheel " + wheel[0] + ";";
            AlongsideLines x = second(quay, 5000, 9000, 0, wheel[3], 0, 0, 0, wheel[2]);
            due("wheel " + wheel[0] + ", M " + wheel[1] + ", R " + wheel[2] + ", PACE " + wheel[3], x.now(5), wheel[4]);
            due("ANGLE has TURN more", x.now(2), wheel[4]);
        }
        int[][] slows = {{10, 9, 9}, {10, 10, 9}, {10, -9, -9}, {10, -10, -9}, {50, 3, 2}, {50, -3, -2}, {0, 5000, 5000}, {50, 5000, 2500}};
        for (int[] slow : slows) {
            AlongsideLines x = second("slow 0 0 " + slow[0] + ";wind 0;", 4500, 9000, 0, 0, 0, slow[1]);
            due("T " + slow[0] + ", TURN " + slow[1], x.now(5), slow[2]);
        }
    }

    private static void turnByPaceOfBefore() {
        sentence("Then by all as it is then");
        // PACE is 0 as the second begins: the wheel turns her with the next alone.
        AlongsideLines x = Checks.at("gap 0 9999;ship 500 1;slow 0 0 0;wind 0;screw 50 0;wheel 10;");
        Checks.put(x, 5000, 9000, 0, 0, 0, 0, 2, 1);
        x.go(1);
        due("TURN", x.now(5), 0);
        due("PACE", x.now(3), 100);
        x.go(1);
        due("TURN of the next", x.now(5), 10);
        // A line pulls along by where she was, not by where she comes.
        x = Checks.at(CALM + "post 5000 900;");
        Checks.put(x, 5000, 100, 0, 10000);
        x.fast(0, 0, 0, 0);
        x.go(1);
        due("PACE", x.now(3), 10000);
        due("DRIFT", x.now(4), 100);
    }

    private static void walkAsternAlone() {
        sentence("and with E below 0: E times walk / M (going astern the screw walks her stern to the quay)");
        int[][] walks = {{-1, 10, 10, -1}, {-1, 9, 10, 0}, {-3, 3, 10, 0}, {-3, 4, 10, -1}, {-2, 99, 1, -198}, {-3, 0, 1, 0}, {0, 99, 1, 0}, {1, 99, 1, 0},
            {2, 99, 1, 0}, {3, 99, 1, 0}};
        for (int[] walk : walks) {
            AlongsideLines x = second("gap 0 9999;ship 500 " + walk[2] + ";slow 0 0 0;wind 0;screw 0 " + walk[1] + ";", 5000, 9000, 0, 0, 0, 0, walk[0]);
            due("E " + walk[0] + ", walk " + walk[1] + ", M " + walk[2], x.now(5), walk[3]);
        }
    }

    private static void linesAdd() {
        sentence("to PACE PULL times W / DISTANCE times 10 / M; to DRIFT PULL times O / DISTANCE times 10 / M; to TURN PULL times O / DISTANCE times ARM / M / 10");
        // Bow or stern is 300 along and 400 off the POST; PULL 7: 4 along, 5 off.
        int[][] cases = {{100, 300, 10, 4, 5, 100}, {100, -300, 10, -4, 5, 100}, {-100, 300, 10, 4, 5, -100}, {-100, -300, 10, -4, 5, -100},
            {100, 300, 99, 0, 0, 10}, {-100, -300, 99, 0, 0, -10}, {100, 300, 41, 0, 1, 24}, {100, 300, 40, 1, 1, 25}, {-100, -300, 40, -1, 1, -25},
            {100, 300, 1, 40, 50, 1000}, {0, 300, 10, 4, 5, 0}, {1, 300, 10, 4, 5, 1}, {-1, 300, 10, 4, 5, -1}, {1, 300, 11, 3, 4, 0}};
        for (int[] c : cases) {
            AlongsideLines x = Checks.at("gap 0 9999;ship 4000 " + c[2] + ";screw 0 0;wheel 0;slow 0 0 0;wind 0;post 5000 50;");
            Checks.put(x, 5000 - c[1] - 20 * c[0], 400);
            due("N", x.fast(2, c[0], 0, 493), 493);
            due("PULL", x.line(2, 4), 7);
            x.go(1);
            String when = "from " + c[0] + ", W " + c[1] + ", M " + c[2];
            due(when + ": PACE", x.now(3), c[3]);
            due(when + ": DRIFT", x.now(4), c[4]);
            due(when + ": TURN", x.now(5), c[5]);
        }
    }

    private static void distanceAtLeastOne() {
        sentence("and DISTANCE (1 at least)");
        AlongsideLines x = Checks.at(CALM + "give 99;post 5000 50;");
        Checks.put(x, 5000, 0);
        for (int l = 0; l < 6; l++) {
            due("N", x.fast(l, 0, 0, l == 0 ? -1 : 0), 0);
        }
        due("none parts", x.go(1), 0);
        nowIs("at the POST", x, 5000, 0, 0, 0, 0, 0);
        due("six lines", x.now(16), 6);
        // At DISTANCE 1 it is divided by 1: PULL 9.
        x = Checks.at(CALM + "give 99;post 5000 50;");
        Checks.put(x, 5000, 1);
        x.fast(0, 0, 0, 0);
        x.go(1);
        due("1 off: DRIFT", x.now(4), 9);
        x = Checks.at(CALM + "give 99;post 5000 50;");
        Checks.put(x, 5001, 0);
        x.fast(0, 0, 0, 0);
        x.go(1);
        due("1 along: PACE", x.now(3), -9);
    }

    // -- what is held

    /** Three lines that pull with 999 each, straight ahead or astern: 29970 in all with M 1. */
    private static long paceOf(int sign, int push) {
        AlongsideLines x = Checks.at("gap 0 9999;ship 500 1;slow 0 0 0;wind 0;screw " + push + " 0;wheel 0;post 250 999;post 9749 999;");
        Checks.put(x, sign > 0 ? 1000 : 8999, 0, 0, 20000 * sign, 0, 0, sign);
        for (int l = 0; l < 3; l++) {
            x.fast(l, 0, sign > 0 ? 1 : 0, 8749 - 999);
        }
        due("none parts", x.go(1), 0);
        due("X", x.now(0), sign > 0 ? 1000 + x.now(3) / 100 : 8999 + x.now(3) / 100);
        return x.now(3);
    }

    private static void paceHeld() {
        sentence("(PACE, DRIFT are held to -50000 .. 50000, ..");
        for (int sign : new int[] {1, -1}) {
            due("49999", paceOf(sign, 29), 49999 * sign);
            due("50000", paceOf(sign, 30), 50000 * sign);
            due("50001", paceOf(sign, 31), 50000 * sign);
            due("50020", paceOf(sign, 50), 50000 * sign);
        }
    }

    /** Three lines that pull her straight in with 999 each, a tug and a wind. */
    private static long driftOf(int tug, int wind) {
        AlongsideLines x = Checks.at("gap 0 9999;ship 500 1;slow 0 0 0;wind " + wind + ";post 5000 999;");
        Checks.put(x, 5000, 5000, 0, 0, 20000, 0, 0, 0, tug);
        for (int l = 0; l < 3; l++) {
            x.fast(l, 0, 0, 4001);
        }
        due("none parts", x.go(1), 0);
        due("Y", x.now(1), 5000 - x.now(4) / 100);
        return x.now(4);
    }

    private static void driftHeld() {
        sentence("(PACE, DRIFT are held to -50000 .. 50000, ..");
        due("49999", driftOf(3, 1), 49999);
        due("50000", driftOf(3, 0), 50000);
        due("50001", driftOf(4, 9), 50000);
        due("50960", driftOf(99, 0), 50000);
        // 304 seconds of a wind of 99 make 30096.
        due("-49999", blownOff(-19903), -49999);
        due("-50000", blownOff(-19904), -50000);
        due("-50001", blownOff(-19905), -50000);
        due("-50096", blownOff(-20000), -50000);
    }

    /** Blown off for 304 seconds; she is put back to the quay ere she comes to Y 30000. */
    private static long blownOff(int drift) {
        AlongsideLines x = Checks.at("gap 0 9999;ship 500 1;slow 0 0 0;wind 99;");
        Checks.put(x, 5000, 0, 0, 0, drift);
        for (int k = 0; k < 16; k++) {
            x.put(1, 0);
            x.go(19);
        }
        return x.now(4);
    }

    private static void turnHeld() {
        sentence("TURN to -20000 .. 20000.)");
        String quay = "gap 0 9999;ship 500 1;slow 0 0 0;wind 0;screw 0 0;wheel 99;";
        for (int sign : new int[] {1, -1}) {
            // 15200 / 100 * 99 is 15048.
            due("19999", second(quay, 5000, 9000, 0, 15200, 0, 4951 * sign, 0, sign).now(5), 19999 * sign);
            due("20000", second(quay, 5000, 9000, 0, 15200, 0, 4952 * sign, 0, sign).now(5), 20000 * sign);
            due("20001", second(quay, 5000, 9000, 0, 15200, 0, 4953 * sign, 0, sign).now(5), 20000 * sign);
            due("64400", second(quay, 5000, 9000, 0, 20000, 0, 5000 * sign, 0, 3 * sign).now(5), 20000 * sign);
        }
    }

    // -- how she moves

    private static void xMoves() {
        sentence("Then X has PACE / 100 more");
        int[][] paces = {{0, 0}, {99, 0}, {100, 1}, {199, 1}, {200, 2}, {-99, 0}, {-100, -1}, {-199, -1}, {-200, -2}, {20000, 200}, {-20000, -200}};
        for (int[] pace : paces) {
            due("PACE " + pace[0], second(CALM, 5000, 3000, 0, pace[0]).now(0), 5000 + pace[1]);
        }
    }

    private static void yMoves() {
        sentence("Y has DRIFT / 100 less, and less PACE / 100 times ANGLE / 57296; ANGLE has TURN more (held)");
        int[][] drifts = {{0, 0}, {99, 0}, {100, 1}, {199, 1}, {-99, 0}, {-100, -1}, {-199, -1}, {20000, 200}, {-20000, -200}};
        for (int[] drift : drifts) {
            due("DRIFT " + drift[0], second(CALM, 5000, 3000, 0, 0, drift[0]).now(1), 3000 - drift[1]);
        }
        // 45000 / 57296 is 0.785: PACE is cut ere it is multiplied.
        int[][] paces = {{199, 45000, 0}, {200, 45000, 1}, {299, 45000, 1}, {300, 45000, 2}, {200, -45000, -1}, {-200, 45000, -1}, {-200, -45000, 1},
            {-299, 45000, -1}, {199, -45000, 0}, {20000, 286, 0}, {20000, 287, 1}, {20000, -286, 0}, {20000, -287, -1}, {20000, 44977, 156}};
        for (int[] pace : paces) {
            AlongsideLines x = second(CALM, 5000, 9000, pace[1], pace[0]);
            due("PACE " + pace[0] + ", ANGLE " + pace[1], x.now(1), 9000 - pace[2]);
        }
        // Both parts are cut by themselves: 199 and 199 of hundredths are 1 and 1 less.
        due("both", second(CALM, 5000, 9000, 45000, 200, 199).now(1), 9000 - 1 - 1);
        // ANGLE as it was before TURN came to it.
        due("ANGLE of before", second(CALM, 5000, 9000, 0, 20000, 0, 5000).now(1), 9000);
    }

    private static void secondsCounted() {
        sentence("Seconds are counted.");
        AlongsideLines x = Checks.at(CALM);
        due("none", x.now(9), 0);
        x.go(1);
        due("one", x.now(9), 1);
        x.go(600);
        due("601", x.now(9), 601);
        x.follow(600);
        due("1201", x.now(9), 1201);
        x.go(601);
        x.tried(600, 0);
        x.astern();
        due("none more", x.now(9), 1201);
    }

    // -- knocks

    private static void knocksBelowQuay() {
        sentence("if it would be off the quay by less than 0 (not held)");
        AlongsideLines x = second(CALM, 5000, 6, 0, 0, 600);
        nowIs("at 0", x, 5000, 0, 0, 0, 600, 0, 0, 0, 0, 1, 0, 0);
        x = second(CALM, 5000, 5, 0, 0, 600);
        nowIs("at -1", x, 5000, 0, 0, 0, 0, 0, 0, 0, 0, 1, 36, 1);
        // The bow alone, by 2000 * 29 / 57296, is 1.
        x = second(CALM, 5000, 7, 29, 0, 600);
        nowIs("bow at 0", x, 5000, 1, 29, 0, 600, 0, 0, 0, 0, 1, 0, 0);
        x = second(CALM, 5000, 6, 29, 0, 600);
        nowIs("bow at -1", x, 5000, 1, 29, 0, 0, 0, 0, 0, 0, 1, 36, 1);
        x = second(CALM, 5000, 7, -29, 0, 600);
        nowIs("stern at 0", x, 5000, 1, -29, 0, 600, 0, 0, 0, 0, 1, 0, 0);
        x = second(CALM, 5000, 6, -29, 0, 600);
        nowIs("stern at -1", x, 5000, 1, -29, 0, 0, 0, 0, 0, 0, 1, 36, 1);
        x = second(CALM, 5000, 0, 0, 0, 20000);
        nowIs("at -200", x, 5000, 0, 0, 0, 0, 0, 0, 0, 0, 1, 40000, 1);
    }

    private static void knocksAboveFender() {
        sentence("if that is above N of 'fender', a KNOCK is counted, HARM is more by its square times M / 10");
        int[][] knocks = {{5, 599, 0, 0}, {5, 600, 1, 36}, {5, 700, 1, 49}, {0, 99, 0, 0}, {0, 100, 1, 1}, {0, 199, 1, 1}, {0, 200, 1, 4},
            {199, 19999, 0, 0}, {199, 20000, 1, 40000}, {198, 19999, 1, 39601}};
        for (int[] k : knocks) {
            String quay = "gap 0 9999;ship 4000 10;slow 0 0 0;wind 0;fender " + k[0] + ";";
            AlongsideLines x = second(quay, 5000, 0, 1, 0, k[1]);
            due("fender " + k[0] + ", DRIFT " + k[1] + ": KNOCKS", x.now(11), k[2]);
            due("fender " + k[0] + ", DRIFT " + k[1] + ": HARM", x.now(10), k[3]);
        }
        // KNOCKS and HARM come together with those of before.
        AlongsideLines x = Checks.at(CALM);
        for (int i = 1; i <= 3; i++) {
            Checks.put(x, 5000, 0, 0, 0, 600);
            x.go(1);
            due("KNOCKS", x.now(11), i);
            due("HARM", x.now(10), 36 * i);
        }
    }

    private static void widestFender() {
        sentence("'fender' N ';' (0 .. 999: pace that harms nobody");
        // TURN 5000 and 10000 / 100 * 99 is 14900; 14900 * 4500 / 573 is 117015; 10000 * 14900 / 57296 is 2600.
        for (int fender : new int[] {998, 999}) {
            String quay = "gap 0 9999;ship 9000 1;slow 0 0 0;wind 0;screw 0 0;wheel 99;fender " + fender + ";";
            AlongsideLines x = second(quay, 4600, 0, 0, 10000, -19616, 5000, 0, 1);
            due("pace 999 of " + fender, x.now(11), fender == 998 ? 1 : 0);
            due("HARM of 999", x.now(10), fender == 998 ? 99800 : 0);
            due("DRIFT is 0 then", x.now(4), 0);
            due("TURN the other way", x.now(5), -4966);
            x = second(quay, 4600, 0, 0, 10000, -19615, 5000, 0, 1);
            due("pace 1000 of " + fender, x.now(11), 1);
            due("HARM of 1000", x.now(10), 100000);
        }
    }

    private static void paceTogether() {
        sentence("its pace is DRIFT, and PACE times ANGLE / 57296, and TURN times ARM / 573, together / 100");
        // 1000 * 2865 / 57296 is 50: with 550 it is 6, with 549 it is 5.
        due("600", second(CALM, 5000, 10, 2865, 1000, 550).now(11), 1);
        due("599", second(CALM, 5000, 10, 2865, 1000, 549).now(11), 0);
        // The stern by PACE astern at an ANGLE below 0: 50 as well; at one above 0 the other way.
        due("stern 600", second(CALM, 5000, 10, -2865, -1000, 550).now(11), 1);
        due("stern 599", second(CALM, 5000, 10, -2865, -1000, 549).now(11), 0);
        due("650 less 50", second(CALM, 5000, 10, 2865, -1000, 650).now(11), 1);
        due("649 less 50", second(CALM, 5000, 10, 2865, -1000, 649).now(11), 0);
        // 3 * 2000 / 573 is 10: with 590 it is 6. At the stern TURN -3 is as much.
        due("TURN 600", second(CALM, 5000, 0, 997, 0, 590, 3).now(11), 1);
        due("TURN 599", second(CALM, 5000, 0, 997, 0, 589, 3).now(11), 0);
        due("stern's TURN 600", second(CALM, 5000, 0, -997, 0, 590, -3).now(11), 1);
        due("stern's TURN 599", second(CALM, 5000, 0, -997, 0, 589, -3).now(11), 0);
        due("610 less 10", second(CALM, 5000, 0, 1003, 0, 610, -3).now(11), 1);
        due("609 less 10", second(CALM, 5000, 0, 1003, 0, 609, -3).now(11), 0);
        // 20000 * 44997 / 57296 is 15706, of 57295 it would be one more: with 93 it is 157.
        String fender = "gap 0 9999;ship 4000 10;screw 0 0;wheel 0;slow 0 0 0;wind 0;fender 157;";
        due("15799", second(fender, 5000, 0, 44997, 20000, 93).now(11), 0);
        due("15800", second(fender, 5000, 0, 44997, 20000, 94).now(11), 1);
        // PACE times ANGLE is more than an int holds: 50000 * 45000.
        AlongsideLines x = Checks.at("gap 0 9999;ship 500 1;slow 0 0 0;wind 0;screw 31 0;wheel 0;fender 0;post 9749 999;");
        Checks.put(x, 1000, 0, 45000, 20000, 0, 0, 1);
        for (int l = 0; l < 3; l++) {
            x.fast(l, 0, 0, 8749 - 999);
        }
        x.go(1);
        due("PACE 50000 at ANGLE 45000: HARM", x.now(10), 392 * 392 / 10);
        due("PACE 50000 at ANGLE 45000: KNOCKS", x.now(11), 1);
    }

    private static void knocksAboveNothing() {
        sentence("if it is above 0, DRIFT is 0 then, and TURN is TURN / 3 the other way; in any case Y is as much more as it is below 0");
        // 2000 * 1000 / 57296 is 34.
        nowIs("pace 1", second(CALM, 5000, 0, 1000, 0, 100), 5000, 34, 1000, 0, 0, 0, 0, 0, 0, 1, 0, 0);
        nowIs("pace 0", second(CALM, 5000, 0, 1000, 0, 99), 5000, 34, 1000, 0, 99, 0, 0, 0, 0, 1, 0, 0);
        nowIs("pace 0 from below", second(CALM, 5000, 0, 1000, 0, -99), 5000, 34, 1000, 0, -99, 0, 0, 0, 0, 1, 0, 0);
        nowIs("pace -1", second(CALM, 5000, 0, 1000, 0, -100), 5000, 34, 1000, 0, -100, 0, 0, 0, 0, 1, 0, 0);
        // TURN stays as well with pace 0 or less: 9 * 2000 / 573 is 31.
        nowIs("pace 0 with TURN", second(CALM, 5000, 0, 991, 0, 68, 9), 5000, 34, 1000, 0, 68, 9);
        nowIs("pace 1 with TURN", second(CALM, 5000, 0, 991, 0, 69, 9), 5000, 34, 1000, 0, 0, -3);
    }

    private static void turnOtherWay() {
        sentence("TURN is TURN / 3 the other way");
        int[][] turns = {{0, 0}, {1, 0}, {2, 0}, {3, -1}, {5, -1}, {6, -2}, {5000, -1666}};
        for (int[] turn : turns) {
            AlongsideLines x = second(CALM, 5000, 0, 0, 0, 300, turn[0]);
            due("TURN " + turn[0], x.now(5), turn[1]);
            // By the stern the other way round.
            x = second(CALM, 5000, 0, -100, 0, 300, -turn[0]);
            due("TURN " + -turn[0], x.now(5), -turn[1]);
        }
    }

    private static void bowThenStern() {
        sentence("Then KNOCKS: bow (p 100), then stern (p -100)");
        // The stern is 3 nearer than the middle, the bow 3 farther: at Y -10 the bow knocks first, and she stops.
        AlongsideLines x = second(CALM, 5000, 0, -100, 0, 1000);
        nowIs("both", x, 5000, 3, -100, 0, 0, 0, 0, 0, 0, 1, 100, 1);
        // The bow's knock turns TURN 90 to -30, which makes 104 at the stern: that one turns it to 10.
        String hard = "gap 0 9999;ship 4000 10;screw 0 0;wheel 0;slow 0 0 0;wind 0;fender 0;";
        x = second(hard, 5000, 0, -190, 0, 1000, 90);
        nowIs("both with TURN", x, 5000, 3, -100, 0, 0, 10, 0, 0, 0, 1, 169 + 1, 2);
        // With bow to the quay the stern is lifted by the bow's knock.
        x = second(hard, 5000, 0, 100, 0, 1000);
        nowIs("bow alone", x, 5000, 3, 100, 0, 0, 0, 0, 0, 0, 1, 100, 1);
    }

    private static void harmCut() {
        sentence("HARM is more by its square times M / 10");
        int[][] harms = {{1, 300, 0}, {1, 400, 1}, {9, 100, 0}, {10, 100, 1}, {19, 100, 1}, {20, 100, 2}, {99, 100, 9}, {99, 20000, 396000}};
        for (int[] harm : harms) {
            String quay = "gap 0 9999;ship 4000 " + harm[0] + ";slow 0 0 0;wind 0;fender 0;screw 0 0;";
            AlongsideLines x = second(quay, 5000, 0, 0, 0, harm[1]);
            due("M " + harm[0] + ", pace " + harm[1] / 100, x.now(10), harm[2]);
            due("KNOCKS", x.now(11), 1);
            x = second(quay, 7999, 3000, 0, harm[1]);
            due("at B, M " + harm[0] + ", pace " + harm[1] / 100, x.now(10), harm[2]);
            x = second(quay, 2000, 3000, 0, -harm[1]);
            due("at A, M " + harm[0] + ", pace " + harm[1] / 100, x.now(10), harm[2]);
            due("no KNOCKS", x.now(11), 0);
        }
    }

    // -- the gap

    private static void gapAtB() {
        sentence("if the bow's place along is beyond B: with PACE / 100 above 0 HARM is more ..; PACE is 0, X as much less");
        String quay = "gap 1000 8000;ship 4000 10;screw 0 0;wheel 0;slow 0 0 0;wind 0;";
        nowIs("at B", second(quay, 5999, 3000, 0, 199), 6000, 3000, 0, 199, 0, 0, 0, 0, 0, 1, 0, 0);
        nowIs("1 beyond B", second(quay, 6000, 3000, 0, 199), 6000, 3000, 0, 0, 0, 0, 0, 0, 0, 1, 1, 0);
        nowIs("beyond B with 99", second(quay, 6001, 3000, 0, 99), 6000, 3000, 0, 0, 0, 0, 0, 0, 0, 1, 0, 0);
        nowIs("beyond B with 0", second(quay, 9999, 3000), 6000, 3000, 0, 0, 0, 0, 0, 0, 0, 1, 0, 0);
        nowIs("beyond B with -99", second(quay, 6001, 3000, 0, -99), 6000, 3000, 0, 0, 0, 0, 0, 0, 0, 1, 0, 0);
        nowIs("beyond B with -100", second(quay, 6002, 3000, 0, -100), 6000, 3000, 0, 0, 0, 0, 0, 0, 0, 1, 0, 0);
        nowIs("back at B with -100", second(quay, 6001, 3000, 0, -100), 6000, 3000, 0, -100, 0, 0, 0, 0, 0, 1, 0, 0);
        // DRIFT, TURN, ANGLE stay.
        nowIs("all else", second(quay, 6000, 3000, 50, 300, 77, 5), 6000, 3000, 55, 0, 77, 5, 0, 0, 0, 1, 9, 0);
    }

    private static void gapAtA() {
        sentence("then, if the stern's is below A: with PACE / 100 below 0 likewise; PACE is 0, X as much more");
        String quay = "gap 1000 8000;ship 4000 10;screw 0 0;wheel 0;slow 0 0 0;wind 0;";
        nowIs("at A", second(quay, 3001, 3000, 0, -199), 3000, 3000, 0, -199, 0, 0, 0, 0, 0, 1, 0, 0);
        nowIs("1 below A", second(quay, 3000, 3000, 0, -199), 3000, 3000, 0, 0, 0, 0, 0, 0, 0, 1, 1, 0);
        nowIs("below A with -99", second(quay, 2999, 3000, 0, -99), 3000, 3000, 0, 0, 0, 0, 0, 0, 0, 1, 0, 0);
        nowIs("below A with 0", second(quay, 0, 3000), 3000, 3000, 0, 0, 0, 0, 0, 0, 0, 1, 0, 0);
        nowIs("below A with 99", second(quay, 2999, 3000, 0, 99), 3000, 3000, 0, 0, 0, 0, 0, 0, 0, 1, 0, 0);
        nowIs("below A with 100", second(quay, 2998, 3000, 0, 100), 3000, 3000, 0, 0, 0, 0, 0, 0, 0, 1, 0, 0);
        nowIs("back at A with 100", second(quay, 2999, 3000, 0, 100), 3000, 3000, 0, 100, 0, 0, 0, 0, 0, 1, 0, 0);
        nowIs("all else", second(quay, 3000, 3000, 50, -300, 77, 5), 3000, 3000, 55, 0, 77, 5, 0, 0, 0, 1, 9, 0);
    }

    private static void gapBoth() {
        sentence("Last the GAP: if the bow's place along is beyond B ..; then, if the stern's is below A");
        // She is 4000 long. In 4000 she fits at one X alone, in 3999 she is held at B and then at A.
        String fits = "gap 1000 5000;ship 4000 10;screw 0 0;slow 0 0 0;wind 0;";
        nowIs("fits", second(fits, 3000, 3000, 0, 99), 3000, 3000, 0, 99);
        nowIs("fits, from ahead", second(fits, 3500, 3000), 3000, 3000, 0, 0);
        nowIs("fits, from astern", second(fits, 2500, 3000), 3000, 3000, 0, 0);
        String close = "gap 1000 4999;ship 4000 10;screw 0 0;slow 0 0 0;wind 0;";
        nowIs("does not fit", second(close, 3000, 3000, 0, 99), 3000, 3000, 0, 0);
        nowIs("does not fit, ahead", second(close, 3000, 3000, 0, 500), 3000, 3000, 0, 0, 0, 0, 0, 0, 0, 1, 25, 0);
        // PACE is 0 at B already: HARM comes once.
        nowIs("does not fit, astern", second(close, 3000, 3000, 0, -100), 3000, 3000, 0, 0, 0, 0, 0, 0, 0, 1, 1, 0);
        nowIs("does not fit, astern beyond B", second(close, 3002, 3000, 0, -100), 3000, 3000, 0, 0, 0, 0, 0, 0, 0, 1, 0, 0);
    }

    private static void gapLast() {
        sentence("Last the GAP");
        // The knock is by PACE 1000 at ANGLE 2865: 50 and 550 are 6. Then she comes to B with 10.
        AlongsideLines x = second(CALM, 7999, 10, 2865, 1000, 550);
        nowIs("knock and B", x, 7999, 100, 2865, 0, 0, 0, 0, 0, 0, 1, 36 + 100, 1);
        x = second(CALM, 2000, 10, -2865, -1000, 550);
        nowIs("knock and A", x, 2000, 100, -2865, 0, 0, 0, 0, 0, 0, 1, 36 + 100, 1);
    }

    private static void farOff() {
        sentence("Y above 30000 is 30000, DRIFT 0 then, if it is below 0.");
        nowIs("30000", second(CALM, 5000, 29999, 0, 0, -100), 5000, 30000, 0, 0, -100, 0);
        nowIs("30001", second(CALM, 5000, 30000, 0, 0, -100), 5000, 30000, 0, 0, 0, 0);
        nowIs("30200", second(CALM, 5000, 30000, 0, 0, -20000), 5000, 30000, 0, 0, 0, 0);
        // 200 * 45000 / 57296 is 157: carried off by PACE whatever DRIFT is.
        nowIs("DRIFT -1", second(CALM, 5000, 30000, -45000, 20000, -1), 5200, 30000, -45000, 20000, 0, 0);
        nowIs("DRIFT 0", second(CALM, 5000, 30000, -45000, 20000, 0), 5200, 30000, -45000, 20000, 0, 0);
        nowIs("DRIFT 1", second(CALM, 5000, 30000, -45000, 20000, 1), 5200, 30000, -45000, 20000, 1, 0);
        nowIs("DRIFT -1 at 30000", second(CALM, 5000, 29843, -45000, 20000, -1), 5200, 30000, -45000, 20000, -1, 0);
    }

    // -- safe

    private static int safe(String quay, int... values) {
        AlongsideLines x = Checks.at(quay);
        Checks.put(x, values);
        return (int) x.now(15);
    }

    private static void safePaces() {
        sentence("SAFE she lies, if PACE, DRIFT, TURN are each less than 100 without sign");
        for (int sign : new int[] {1, -1}) {
            due("PACE 99", safe(CALM, 5000, 0, 0, 99 * sign), 1);
            due("PACE 100", safe(CALM, 5000, 0, 0, 100 * sign), 0);
            due("DRIFT 99", safe(CALM, 5000, 0, 0, 0, 99 * sign), 1);
            due("DRIFT 100", safe(CALM, 5000, 0, 0, 0, 100 * sign), 0);
            due("TURN 99", safe(CALM, 5000, 0, 0, 0, 0, 99 * sign), 1);
            due("TURN 100", safe(CALM, 5000, 0, 0, 0, 0, 100 * sign), 0);
            due("all 99", safe(CALM, 5000, 0, 0, 99 * sign, 99 * sign, 99 * sign), 1);
        }
        // E, R and the tug do not matter.
        due("E, R, Q", safe(CALM, 5000, 0, 0, 0, 0, 0, 3, -3, 99), 1);
    }

    private static void safeAngle() {
        sentence("ANGLE less than 2000");
        for (int sign : new int[] {1, -1}) {
            due("ANGLE 1999", safe(CALM, 5000, 100, 1999 * sign), 1);
            due("ANGLE 2000", safe(CALM, 5000, 100, 2000 * sign), 0);
            due("ANGLE 45000", safe("gap 0 9999;ship 500 1;", 5000, 0, 45000 * sign), 0);
        }
    }

    private static void safeOff() {
        sentence("bow and stern less than 300 off the quay");
        due("299", safe(CALM, 5000, 299), 1);
        due("300", safe(CALM, 5000, 300), 0);
        // 2000 * 1000 / 57296 is 34: bow and stern by themselves.
        due("stern 299", safe(CALM, 5000, 265, 1000), 1);
        due("stern 300", safe(CALM, 5000, 266, 1000), 0);
        due("bow 299", safe(CALM, 5000, 265, -1000), 1);
        due("bow 300", safe(CALM, 5000, 266, -1000), 0);
        due("0", safe(CALM, 5000, 0), 1);
        due("bow in the quay", safe(CALM, 5000, 0, 1000), 1);
    }

    private static void safeAlong() {
        sentence("bow's and stern's places along within A .. B");
        String quay = "gap 1000 8000;ship 4000 10;";
        due("bow at B", safe(quay, 6000, 0), 1);
        due("bow beyond B", safe(quay, 6001, 0), 0);
        due("stern at A", safe(quay, 3000, 0), 1);
        due("stern below A", safe(quay, 2999, 0), 0);
        due("just her length", safe("gap 1000 5000;ship 4000 10;", 3000, 0), 1);
        due("less than her length", safe("gap 1000 4999;ship 4000 10;", 3000, 0), 0);
        due("less than her length", safe("gap 1001 5000;ship 4000 10;", 3000, 0), 0);
    }

    // -- promises

    private static void putting() {
        sentence("Promise 9: what = 0 X (0 .. 9999), 1 Y (0 .. 30000), 2 ANGLE (-45000 .. 45000), 3 PACE, 4 DRIFT (-20000 .. 20000, both), "
            + "5 TURN (-5000 .. 5000), 6 E, 7 R (-3 .. 3), 8 the TUG's Q (0 .. 99) becomes v: what it was. OUTSIDE.");
        int[] least = {0, 0, -45000, -20000, -20000, -5000, -3, -3, 0};
        int[] most = {9999, 30000, 45000, 20000, 20000, 5000, 3, 3, 99};
        long[] first = {4500, 3000, 0, 0, 0, 0, 0, 0, 0};
        for (int what = 0; what < 9; what++) {
            AlongsideLines x = new AlongsideLines();
            for (int v : new int[] {least[what] - 1, most[what] + 1, LEAST, MOST}) {
                due("put(" + what + ", " + v + ")", x.put(what, v), OUTSIDE);
                due("now(" + what + ")", x.now(what), first[what]);
            }
            due("put(" + what + ", least)", x.put(what, least[what]), first[what]);
            due("now(" + what + ")", x.now(what), least[what]);
            due("put(" + what + ", most)", x.put(what, most[what]), least[what]);
            due("now(" + what + ")", x.now(what), most[what]);
            for (int other = 0; other < 9; other++) {
                due("put(" + what + ") leaves " + other, x.now(other), other == what ? most[what] : first[other]);
            }
        }
        for (int what : new int[] {-1, 9, 10, LEAST, MOST}) {
            due("put(" + what + ", 0)", new AlongsideLines().put(what, 0), OUTSIDE);
        }
    }

    private static void puttingWhatItWas() {
        sentence("Promise 9: becomes v: what it was");
        // What it was may be what could not be put.
        AlongsideLines x = second("gap 0 9999;ship 500 1;slow 0 0 0;wind 0;screw 0 0;wheel 99;", 5000, 9000, 0, 15200, 0, 4952, 0, 1);
        due("TURN was 20000", x.put(5, 5000), 20000);
        due("TURN is 5000", x.now(5), 5000);
        x = second("gap 0 9999;ship 500 10;slow 0 0 0;wind 0;screw 50 0;wheel 0;", 5000, 9000, 0, 20000, 0, 0, 3);
        due("PACE was 20150", x.put(3, -20000), 20150);
        x = second("gap 0 9999;ship 500 1;slow 0 0 0;wind 99;", 5000, 9000, 0, 0, -20000);
        due("DRIFT was -20099", x.put(4, 0), -20099);
        // Put does not count a second or move her.
        due("seconds", x.now(9), 1);
    }

    private static void nows() {
        sentence("Promise 10: Now: 0 to 8 as in put(), .. 16 how many lines. OUTSIDE.");
        AlongsideLines x = Checks.at(CALM + "post 5000 9;");
        Checks.put(x, 5001, 0, 1000, 101, 700, 103, 1, -2, 98);
        x.fast(4, 0, 0, 9999);
        x.fast(1, 0, 0, 9999);
        nowIs("put", x, 5001, 0, 1000, 101, 700, 103, 1, -2, 98, 0, 0, 0, 0, 0, 34, 0, 2);
        // A knock: DRIFT 700 and 98 of the tug, (798 + 101 * 1103 / 57296 + 103 * 2000 / 573) / 100 is 11.
        x.go(1);
        nowIs("a second", x, 5002, 38, 1103, 101, 0, -34, 1, -2, 98, 1, 121, 1, 0, 0, 76, 0, 2);
        for (int what : new int[] {-1, 17, LEAST, MOST}) {
            due("now(" + what + ")", x.now(what), OUTSIDE);
        }
    }

    private static void going() {
        sentence("Promise 11: n seconds (1 .. 600) go by: how many lines PARTED. OUTSIDE.");
        AlongsideLines x = Checks.at(CALM + "post 5000 1;");
        for (int n : new int[] {0, -1, 601, LEAST, MOST}) {
            due("go(" + n + ")", x.go(n), OUTSIDE);
        }
        due("none went by", x.now(9), 0);
        due("go(1)", x.go(1), 0);
        due("1", x.now(9), 1);
        due("go(600)", x.go(600), 0);
        due("601", x.now(9), 601);
        // Lines part in different seconds, and all of them count: 10 ahead each second.
        Checks.put(x, 5000, 0, 0, 1000);
        for (int l = 0; l < 6; l++) {
            x.fast(l, 0, 0, 100 * l);
        }
        due("six part", x.go(100), 6);
        due("none is left", x.now(16), 0);
        due("none parts any more", x.go(1), 0);
    }

    private static void following() {
        sentence("Promise 12: n seconds (1 .. 600) by THE PLAN (its T from now on): how many lines PARTED. OUTSIDE.");
        AlongsideLines x = Checks.at(CALM + "post 5000 1;");
        for (int n : new int[] {0, -1, 601, LEAST, MOST}) {
            due("follow(" + n + ")", x.follow(n), OUTSIDE);
        }
        due("none went by", x.now(9), 0);
        due("follow(1)", x.follow(1), 0);
        due("1", x.now(9), 1);
        due("follow(600)", x.follow(600), 0);
        due("601", x.now(9), 601);
        Checks.put(x, 5000, 0, 0, 1000);
        for (int l = 0; l < 6; l++) {
            x.fast(l, 0, 0, 100 * l);
        }
        due("six part", x.follow(100), 6);
    }

    private static void followingSeconds() {
        sentence("E, R as THE PLAN tells, second by second (T from now on; before the first 'at' as they are)");
        // A second at T begins with what is told at T: with n seconds, T n less 1 is the last that is told.
        for (int at : new int[] {0, 1, 4, 599}) {
            AlongsideLines x = Checks.at("gap 0 9999;ship 500 10;slow 0 0 0;wind 0;screw 1 0;");
            Checks.plan(x, "at " + at + " 6 5;");
            Checks.put(x, 5000, 9000, 0, 0, 0, 0, -1, -2);
            if (at > 0) {
                x.follow(at);
                due("before " + at + ": PACE", x.now(3), -at);
                due("before " + at + ": E", x.now(6), -1);
                due("before " + at + ": R", x.now(7), -2);
                Checks.put(x, 5000, 9000, 0, 0, 0, 0, -1, -2);
            }
            x.follow(at + 1);
            due("at " + at + ": PACE", x.now(3), 3 - at);
            due("at " + at + ": E", x.now(6), 3);
            due("at " + at + ": R", x.now(7), 2);
        }
        // T 600 is never reached by one call, nor by two: it counts from each anew.
        AlongsideLines x = Checks.at(CALM);
        Checks.plan(x, "at 600 6 5;at 999 0 0;");
        x.follow(600);
        due("T 600: E", x.now(6), 0);
        x.follow(600);
        due("T 600 again: E", x.now(6), 0);
        // With no PLAN E, R are as they are.
        x.plan();
        x.put(6, 2);
        x.follow(3);
        due("no PLAN: E", x.now(6), 2);
        // Each clause holds until the next.
        x = Checks.at("gap 0 9999;ship 500 10;slow 0 0 0;wind 0;screw 1 0;wheel 0;");
        Checks.plan(x, "at 0 4 3;at 3 5 3;at 4 6 3;");
        x.follow(6);
        due("1 1 1 2 3 3", x.now(3), 11);
    }
}
