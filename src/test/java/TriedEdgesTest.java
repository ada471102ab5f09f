/** Each sentence of the document on what is tried that names an edge; promises 20 to 25. */
public final class TriedEdgesTest {
    private static final int OUTSIDE = AlongsideLines.OUTSIDE, NONE = -1;
    private static final int LEAST = Integer.MIN_VALUE, MOST = Integer.MAX_VALUE;
    /** HALF is 2000, M is 10; E makes 10 a second of PACE. */
    private static final String CALM = "gap 0 9999;ship 4000 10;screw 10 0;wheel 0;slow 0 0 0;wind 0;fender 5;";
    private static final String HARD = "gap 0 9999;ship 4000 10;screw 10 0;wheel 0;slow 0 0 0;wind 0;fender 0;";
    private static final Checks checks = new Checks();

    public static void main(String[] args) {
        triedSeconds();
        triedReadings();
        triedBeforeTheFirst();
        asternLeast();
        asternMost();
        asternSixtySeconds();
        asternHarm();
        asternTwo();
        asternStops();
        asternStaysStopped();
        asternWheel();
        offGreatest();
        offNone();
        offAsternThree();
        offLaterAgain();
        windGreatest();
        windNothing();
        gapSteps();
        gapBelowB();
        gapHarm();
        tugLeast();
        tugMost();
        withoutHarm();
        secondsOfSearches();
        checks.end();
    }

    private static void sentence(String words) {
        checks.sentence(words);
    }

    private static void due(String call, long got, long want) {
        checks.due(call, got, want);
    }

    private static AlongsideLines at(String quay, int... values) {
        AlongsideLines x = Checks.at(quay);
        Checks.put(x, values);
        return x;
    }

    // -- tried

    private static void triedSeconds() {
        sentence("Promise 20: TRIED by THE PLAN n seconds (1 .. 600)");
        AlongsideLines x = at(CALM, 5000, 3000);
        due("n 1", x.tried(1, 9), 1);
        due("n 600", x.tried(600, 9), 600);
        for (int n : new int[] {0, -1, 601, LEAST, MOST}) {
            due("n " + n, x.tried(n, 9), OUTSIDE);
        }
        due("none went by", x.now(9), 0);
        x.go(5);
        due("n 600 later", x.tried(600, 9), 605);
    }

    private static void triedReadings() {
        sentence("Promise 20: what = 0 to 5, 9 to 11, 15 as in now(), 17 lines that are left. OUTSIDE.");
        AlongsideLines x = at(CALM + "post 5000 50;post 6000 999;", 5000, 0, 1000, 101, 700, 103, 1, -2, 9);
        x.fast(0, 0, 0, 9999);
        x.fast(1, 0, 1, 9999);
        x.fast(4, 0, 1, 0);
        long[] due = new long[18];
        x.keep(0);
        x.follow(3);
        for (int what = 0; what < 17; what++) {
            due[what] = x.now(what);
        }
        due[17] = x.now(16);
        due("one parted", due[17], 2);
        due("knocked", due[11], 1);
        x.goBack(0);
        for (int what = -2; what < 21; what++) {
            boolean in = what >= 0 && what <= 5 || what >= 9 && what <= 11 || what == 15 || what == 17;
            due("tried(3, " + what + ")", x.tried(3, what), in ? due[what] : OUTSIDE);
        }
        due("tried(3, LEAST)", x.tried(3, LEAST), OUTSIDE);
        due("tried(3, MOST)", x.tried(3, MOST), OUTSIDE);
        due("lines are left", x.now(16), 3);
        due("SAFE as tried", at(CALM, 5000, 0).tried(1, 15), 1);
    }

    private static void triedBeforeTheFirst() {
        sentence("TRIED, from how all is now: E, R as THE PLAN tells, second by second (T from now on; before the first 'at' as they are)");
        AlongsideLines x = at(CALM, 5000, 3000, 0, 0, 0, 0, 1);
        due("no PLAN", x.tried(5, 3), 50);
        Checks.plan(x, "at 5 6 3;");
        due("before", x.tried(5, 3), 50);
        due("at T", x.tried(6, 3), 80);
        x.go(3);
        due("T from now on", x.tried(5, 3), 80);
        due("T from now on, at T", x.tried(6, 3), 110);
        Checks.plan(x, "at 0 0 3;");
        due("T 0", x.tried(1, 3), 0);
        Checks.plan(x, "at 599 0 3;");
        Checks.put(x, 5000, 3000, 0, 0, 0, 0, 0);
        due("T 599 in 599", x.tried(599, 3), 0);
        due("T 599 in 600", x.tried(600, 3), -30);
        due("E as it is", x.now(6), 0);
    }

    // -- astern

    private static void asternLeast() {
        sentence("ASTERN: the least t (0 .. 120) so that she is SAFE t and 60 seconds from now");
        due("SAFE anyhow", at(CALM, 5000, 0).astern(), 0);
        // 5 to the quay each second; in the 61st second from 300 she is at -5, and her fender stops her.
        due("60 seconds do", at(CALM, 5000, 295, 0, 0, 500).astern(), 0);
        due("60 seconds do not", at(CALM, 5000, 300, 0, 0, 500).astern(), 1);
        due("nor with less", at(CALM, 5000, 299, 0, 0, 500).astern(), 0);
        // Later ones do as well: the least counts.
        due("least", at(CALM, 5000, 595, 0, 0, 500).astern(), 60);
    }

    private static void asternMost() {
        sentence("ASTERN: the least t (0 .. 120) .. ; NONE");
        due("119", at(CALM, 5000, 890, 0, 0, 500).astern(), 119);
        due("120", at(CALM, 5000, 895, 0, 0, 500).astern(), 120);
        due("120, by a little", at(CALM, 5000, 899, 0, 0, 500).astern(), 120);
        due("121", at(CALM, 5000, 900, 0, 0, 500).astern(), NONE);
        due("a new object", new AlongsideLines().astern(), NONE);
    }

    private static void asternSixtySeconds() {
        sentence("she is SAFE t and 60 seconds from now without HARM since now");
        // DRIFT grows by 1 a second: at 99 she is SAFE, with 100 she knocks.
        due("99 in the 60th", at(HARD, 5000, 0, 0, 0, 39, 0, 0, 0, 1).astern(), 0);
        due("100 in the 60th", at(HARD, 5000, 0, 0, 0, 40, 0, 0, 0, 1).astern(), NONE);
        // Where a pace of 1 harms nobody DRIFT is 0 again after the knock: SAFE.
        due("100 in the 60th, soft", at(CALM, 5000, 0, 0, 0, 40, 0, 0, 0, 1).astern(), 0);
        // Off from the quay DRIFT 100 is not SAFE, 99 is.
        due("99 off the quay", at(HARD, 5000, 200, 0, 0, 39, 0, 0, 0, 1).astern(), 0);
        due("100 off the quay", at(HARD, 5000, 200, 0, 0, 40, 0, 0, 0, 1).astern(), NONE);
    }

    private static void asternHarm() {
        sentence("without HARM since now: t seconds with E, R as they are");
        // PACE -1500, E 3: less than 100 without sign from the 47th second on.
        due("room astern", at(CALM, 7000, 0, 0, -1500, 0, 0, 3).astern(), 47);
        // What she makes astern till then there must be room for.
        int way = 0;
        for (int k = 1; k <= 47; k++) {
            way += (1500 - 30 * k) / 100;
        }
        due("just room", at(CALM, 2000 + way, 0, 0, -1500, 0, 0, 3).astern(), 47);
        due("one less", at(CALM, 2000 + way - 1, 0, 0, -1500, 0, 0, 3).astern(), NONE);
        // HARM of before now does not count.
        AlongsideLines x = at(HARD, 5000, 0, 0, 0, 5000);
        x.go(1);
        due("harmed", x.now(10), 2500);
        due("since now", x.astern(), 0);
        // Ahead: 60 seconds of E -2 from 1200 on are 354 ahead.
        way = 0;
        for (int k = 1; k <= 60; k++) {
            way += (1200 - 20 * k) / 100;
        }
        String upTo = "gap 0 " + (7000 + way) + ";ship 4000 10;screw 10 0;wheel 0;slow 0 0 0;wind 0;fender 5;";
        due("just room ahead", at(upTo, 5000, 0, 0, 1200).astern(), 0);
        due("one less ahead", at(upTo, 5001, 0, 0, 1200).astern(), NONE);
    }

    private static void asternTwo() {
        sentence("then E -2, R 0");
        due("1299 comes to 99", at(CALM, 5000, 0, 0, 1299).astern(), 0);
        due("1300 comes to 100", at(CALM, 5000, 0, 0, 1300).astern(), NONE);
        due("1200 comes to 0", at(CALM, 5000, 0, 0, 1200).astern(), 0);
        // With E -1 till then it is less: 1300 to 1290 by one second of it.
        due("E -1 as it is", at(CALM, 5000, 0, 0, 1300, 0, 0, -1).astern(), 1);
        due("E -3 as it is", at(CALM, 5000, 0, 0, 1390, 0, 0, -3).astern(), 4);
        // E -2 walks her stern: -2 * 5 / 10 a second makes TURN -1, 99 of it are SAFE.
        String walks = "gap 0 9999;ship 500 10;screw 1 5;wheel 0;slow 0 0 0;wind 0;fender 999;";
        // ANGLE is such that it is 0 at last.
        due("TURN -1 a second", at(walks, 5000, 200, 4170, 120, 0, -39).astern(), 0);
        due("TURN -1 a second more", at(walks, 5000, 200, 4230, 120, 0, -40).astern(), NONE);
    }

    private static void asternStops() {
        sentence("from the first second on that begins with PACE 0 or less E 0, R 0");
        String strong = "gap 0 9999;ship 4000 10;screw 50 0;wheel 0;slow 0 0 0;wind 0;";
        due("PACE 0 at once", at(strong, 5000, 0, 0, 0).astern(), 0);
        // From 1 it is -99 a second later, and stays there.
        due("PACE 1", at(strong, 5000, 0, 0, 1).astern(), 0);
        due("PACE 100 comes to 0", at(strong, 5000, 0, 0, 100).astern(), 0);
        due("PACE 101 comes to 1, then to -99", at(strong, 5000, 0, 0, 101).astern(), 0);
        due("PACE -1", at(strong, 5000, 0, 0, -1).astern(), 0);
        due("PACE -99", at(strong, 5000, 0, 0, -99).astern(), 0);
        due("PACE -100", at(strong, 5000, 0, 0, -100).astern(), NONE);
        // Walk shows how many seconds she went astern: TURN -2 * 10 / 10 each. ANGLE is such that it is 0 at last.
        String walks = "gap 0 9999;ship 500 10;screw 1 10;wheel 0;slow 0 0 0;wind 0;fender 999;";
        due("one second: PACE 1", at(walks, 5000, 200, 5940, 1, 0, -97).astern(), 0);
        due("one second: PACE 2", at(walks, 5000, 200, 5940, 2, 0, -97).astern(), 0);
        due("one second: TURN", at(walks, 5000, 200, 6000, 2, 0, -98).astern(), NONE);
        due("two seconds: PACE 3", at(walks, 5000, 200, 5998, 3, 0, -96).astern(), NONE);
        due("two seconds: PACE 4", at(walks, 5000, 200, 5938, 4, 0, -95).astern(), 0);
        due("no second: PACE 0", at(walks, 5000, 200, 5940, 0, 0, -99).astern(), 0);
    }

    private static void asternStaysStopped() {
        sentence("from the first second on that begins with PACE 0 or less E 0, R 0");
        // A line pulls her ahead from PACE 0 on: E stays 0 though PACE is above 0 again.
        AlongsideLines[] pulled = new AlongsideLines[121];
        for (int t = 0; t <= 120; t++) {
            pulled[t] = at("gap 0 9999;ship 4000 10;screw 20 0;wheel 0;slow 0 0 0;wind 0;post 9000 900;", 5000, 0);
            pulled[t].fast(0, 0, 0, 3950);
        }
        int stays = NONE;
        int goesOn = NONE;
        for (int t = 120; t >= 0; t--) {
            pulled[t].keep(0);
            stays = stopsSafely(pulled[t], t, true) ? t : stays;
            pulled[t].goBack(0);
            goesOn = stopsSafely(pulled[t], t, false) ? t : goesOn;
            pulled[t].goBack(0);
        }
        due("the two differ", stays == goesOn ? 1 : 0, 0);
        due("pulled ahead", pulled[0].astern(), stays);
    }

    /** ASTERN's t and 60 seconds by its own words, with E -2 again when she goes ahead again or not. */
    private static boolean stopsSafely(AlongsideLines x, int t, boolean stays) {
        if (t > 0) {
            x.go(t);
        }
        x.put(7, 0);
        boolean stopped = false;
        for (int i = 0; i < 60; i++) {
            stopped = x.now(3) <= 0 || stopped && stays;
            x.put(6, stopped ? 0 : -2);
            x.go(1);
        }
        return x.now(15) == 1 && x.now(10) == 0;
    }

    private static void asternWheel() {
        sentence("t seconds with E, R as they are; then E -2, R 0");
        // R 1 at PACE 100 turns her by 9 a second; R 0 does not.
        String quay = "gap 0 9999;ship 500 10;screw 1 0;wheel 99;slow 0 0 0;wind 0;fender 999;";
        // ANGLE is such that it is 0 at last.
        due("R 0 at once", at(quay, 5000, 200, -5700, 160, 0, 95, 0, 1).astern(), 0);
        // R as it is takes 9 off TURN each second: from 108 to 99 in one, from 109 to 91 in two.
        due("R -1 for a second", at(quay, 5000, 200, -6039, 160, 0, 108, 0, -1).astern(), 1);
        due("R -1 for two", at(quay, 5000, 200, -5651, 160, 0, 109, 0, -1).astern(), 2);
    }

    // -- off

    private static void offGreatest() {
        sentence("OFF: the greatest t (0 .. 120) so that no HARM has come since now by t seconds with E, R as they are and 120 more with E -3, R 0");
        // 1 astern a second with no engine: her stern is at w, which she may come by in w seconds, and no more.
        String quay = "gap 0 9000;ship 4000 10;screw 0 0;slow 0 0 0;wind 0;";
        int[][] ways = {{119, NONE}, {120, 0}, {121, 1}, {239, 119}, {240, 120}, {241, 120}, {5000, 120}};
        for (int[] way : ways) {
            due(way[0] + " to go", at(quay, 2000 + way[0], 3000, 0, -100).off(), way[1]);
        }
        due("at rest", at(quay, 2000, 3000).off(), 120);
        due("PACE -99", at(quay, 2000, 3000, 0, -99).off(), 120);
        due("a new object", new AlongsideLines().off(), 120);
    }

    private static void offNone() {
        sentence("OFF: .. no HARM has come since now ..; NONE");
        due("HARM in the first second", at(HARD, 5000, 0, 0, 0, 100).off(), NONE);
        due("no HARM at 99", at("gap 0 9999;ship 4000 10;screw 0 0;slow 0 0 0;wind 0;fender 0;", 5000, 0, 0, 0, 99).off(), 120);
        // DRIFT grows by 1 a second: by the 120th she has come in by 21, by the 239th by 180, by the 240th by 182.
        String quay = "gap 0 9999;ship 4000 10;screw 0 0;slow 0 0 0;wind 0;fender 0;";
        due("in the 100th", at(quay, 5000, 0, 0, 0, 0, 0, 0, 0, 1).off(), NONE);
        due("in the 120th", at(quay, 5000, 20, 0, 0, 0, 0, 0, 0, 1).off(), NONE);
        due("in the 121st", at(quay, 5000, 21, 0, 0, 0, 0, 0, 0, 1).off(), 0);
        due("in the 239th", at(quay, 5000, 179, 0, 0, 0, 0, 0, 0, 1).off(), 118);
        due("in the 240th", at(quay, 5000, 180, 0, 0, 0, 0, 0, 0, 1).off(), 119);
        due("in the 241st", at(quay, 5000, 182, 0, 0, 0, 0, 0, 0, 1).off(), 120);
        // HARM of before does not count.
        AlongsideLines x = at(quay, 5000, 0, 0, 0, 5000);
        x.go(1);
        due("harmed", x.now(10), 2500);
        due("since now", x.off(), 120);
    }

    private static void offAsternThree() {
        sentence("and 120 more with E -3, R 0");
        // P 1: 30 seconds bring PACE 90 to 0; a wheel would turn her meanwhile, R 0 does not.
        String quay = "gap 0 9000;ship 4000 10;screw 1 0;wheel 99;slow 0 0 0;wind 0;fender 0;";
        int way = 0;
        int back = 0;
        int least = 0;
        for (int k = 1; k <= 120; k++) {
            int pace = 600 - 3 * k;
            way += pace / 100;
            back = Math.max(back, way);
            least = Math.min(least, way);
        }
        due("comes no way back in 120 seconds", least, 0);
        due("room", at(quay, 7000 - back, 3000, 0, 600).off(), 0);
        due("one less", at(quay, 7001 - back, 3000, 0, 600).off(), NONE);
        due("for one second more", at(quay, 7000 - back - 6, 3000, 0, 600).off(), 1);
        due("for one second more, one less", at(quay, 7001 - back - 6, 3000, 0, 600).off(), 0);
        // R 1 at PACE 600 would turn her bow into the quay within the 120 seconds.
        due("R 0 then", at(quay, 7000 - back, 300, 0, 600, 0, 0, 0, 1).off(), 0);
    }

    private static void offLaterAgain() {
        sentence("OFF: the greatest t");
        // Going astern at once she comes to A with HARM; later she is farther from it.
        String quay = "gap 0 9999;ship 4000 10;screw 1 0;wheel 0;slow 0 0 0;wind 0;";
        AlongsideLines x = at(quay, 2010, 3000, 0, 0, 0, 0, 3);
        x.keep(0);
        x.put(6, -3);
        x.go(120);
        due("HARM at once", x.now(10) > 0 ? 1 : 0, 1);
        x.goBack(0);
        due("greatest", x.off(), 120);
    }

    // -- wind, gap, tug

    private static void windGreatest() {
        sentence("WIND: the greatest F (0 .. 99) with which, by THE PLAN, she is SAFE n seconds from now without HARM");
        // DRIFT is n times F less: 99 is SAFE, 100 is not.
        AlongsideLines x = at(CALM, 5000, 0);
        int[][] winds = {{1, 99}, {2, 49}, {3, 33}, {4, 24}, {33, 3}, {34, 2}, {49, 2}, {50, 1}, {99, 1}, {100, 0}, {300, 0}};
        for (int[] wind : winds) {
            due("n " + wind[0], x.wind(wind[0]), wind[1]);
        }
        // With DRIFT 1 in it would be 100 at the most, but F ends with 99.
        x.put(4, 1);
        due("99 at most", x.wind(1), 99);
        x.put(4, -1);
        due("DRIFT -1", x.wind(1), 98);
        // The greatest, though a lesser one would not do: of DRIFT 198 it takes 99 to leave 99.
        Checks.put(x, 5000, 290, 0, 0, 150);
        due("51 .. 99", x.wind(1), 99);
        Checks.put(x, 5000, 290, 0, 0, 198);
        due("99 alone", x.wind(1), 99);
        Checks.put(x, 5000, 290, 0, 0, 199);
        due("none", x.wind(1), NONE);
        // In 10 seconds 500 is brought to 90 by 41, to -90 by 59.
        Checks.put(x, 5000, 290, 0, 0, 500);
        due("41 .. 59", x.wind(10), 59);
        due("F as it was", x.told(10), 0);
    }

    private static void windNothing() {
        sentence("WIND: the greatest F (0 .. 99) ..; NONE");
        AlongsideLines x = at(CALM, 5000, 0, 0, 0, -99);
        due("0 is the only one", x.wind(1), 0);
        x.put(4, -100);
        due("none", x.wind(1), NONE);
        x.put(4, 0);
        x.put(1, 299);
        due("299 off", x.wind(1), 99);
        x.put(1, 300);
        due("300 off", x.wind(1), NONE);
    }

    private static void gapSteps() {
        sentence("LEAST GAP: likewise the greatest of A, A and 50, A and 100, .. (below B) in A's place with which it is so: B less that; NONE");
        // At rest she is shoved ahead by A, as far as B lets her: she is 500 long.
        int[][] gaps = {{0, 1000, 500}, {1, 1000, 549}, {49, 1000, 501}, {50, 1000, 500}, {51, 1000, 549}, {500, 1000, 500}, {501, 1000, NONE}, {450, 1000, 500},
            {451, 1000, 549}, {499, 1000, 501}, {9499, 9999, 500}, {9450, 9999, 549}, {0, 9999, 549}, {0, 500, 500}, {0, 499, NONE}, {0, 50, NONE}, {0, 1, NONE},
            {9998, 9999, NONE}, {0, 9000, 500}};
        for (int[] gap : gaps) {
            AlongsideLines x = at("gap " + gap[0] + " " + gap[1] + ";ship 500 10;slow 0 0 0;wind 0;", Math.min(9999, gap[0] + 250), 0);
            due("gap " + gap[0] + " " + gap[1], x.gap(1), gap[2]);
            due("gap " + gap[0] + " " + gap[1] + " for 300", x.gap(300), gap[2]);
            due("A as it was", x.told(0), gap[0]);
        }
        due("not SAFE", at("gap 0 9000;ship 500 10;slow 0 0 0;wind 0;", 4500, 300).gap(1), NONE);
    }

    private static void gapBelowB() {
        sentence("A, A and 50, A and 100, .. (below B)");
        // A gap that she fills is the least that there can be, whether B is met by the steps or not.
        for (int b = 500; b <= 700; b++) {
            AlongsideLines x = at("gap 0 " + b + ";ship 500 10;slow 0 0 0;wind 0;", 250, 0);
            due("gap 0 " + b, x.gap(3), b - (b - 500) / 50 * 50);
        }
    }

    private static void gapHarm() {
        sentence("LEAST GAP: likewise .. without HARM");
        // Astern by 1 a second for 10 seconds: at A her stern has HARM; 1 ahead in PACE is taken off by THE PLAN at last.
        AlongsideLines x = at("gap 0 9000;ship 4000 10;screw 50 0;wheel 0;slow 0 0 0;wind 0;", 4510, 0, 0, -100);
        Checks.plan(x, "at 10 4 3;");
        // Her stern comes from 2510 to 2500 in 10 seconds: A may be 2500, not 2550.
        due("2500", x.gap(11), 6500);
        x.put(0, 4509);
        due("2499", x.gap(11), 6550);
        x.put(3, -99);
        due("PACE -99 does no HARM", x.gap(11), 4000);
        x.put(3, 99);
        due("PACE 99, E at last", x.gap(10), 4000);
    }

    private static void tugLeast() {
        sentence("TUGGED: the least Q (0 .. 99) with which, by THE PLAN, it is so");
        String quay = "gap 0 9999;ship 4000 10;slow 0 0 0;wind 9;fender 5;";
        // DRIFT -9 n and Q n: less than 100 without sign.
        int[][] tugs = {{1, 0}, {11, 0}, {12, 1}, {20, 5}, {100, 9}, {99, 8}, {300, 9}};
        for (int[] tug : tugs) {
            due("n " + tug[0], at(quay, 5000, 0).tug(tug[0]), tug[1]);
        }
        AlongsideLines x = at(quay, 5000, 0, 0, 0, 0, 0, 0, 0, 77);
        due("Q in its place", x.tug(12), 1);
        due("Q as it was", x.now(8), 77);
    }

    private static void tugMost() {
        sentence("TUGGED: the least Q (0 .. 99) ..; NONE");
        String quay = "gap 0 9999;ship 4000 10;slow 0 0 0;wind 99;fender 5;";
        due("DRIFT -99: 99", at(quay, 5000, 0, 0, 0, -99).tug(1), 99);
        due("DRIFT -98: 98", at(quay, 5000, 0, 0, 0, -98).tug(1), 98);
        due("DRIFT -100: none", at(quay, 5000, 0, 0, 0, -100).tug(1), NONE);
        due("0 does", at(quay, 5000, 0, 0, 0, 0).tug(1), 0);
        due("300 off", at(quay, 5000, 300).tug(1), NONE);
        // Too much knocks her: from 290 off in 3 seconds, with PACE of her own.
        due("not SAFE before", at("gap 0 9999;ship 4000 10;slow 0 0 0;wind 0;fender 5;", 5000, 300, 0, 0, 90).tug(1), NONE);
        due("in by 1", at("gap 0 9999;ship 4000 10;slow 0 0 0;wind 0;fender 5;", 5000, 300, 0, 0, 60).tug(2), NONE);
    }

    private static void withoutHarm() {
        sentence("without HARM");
        // Harmed in any case, by PACE against B: none will do; at a pace of less than 1 there is no HARM.
        String quay = "gap 0 9999;ship 4000 10;screw 0 0;wheel 0;slow 0 0 0;wind 0;fender 0;";
        AlongsideLines x = at(quay, 7999, 0, 0, 100);
        due("wind", x.wind(2), NONE);
        due("gap", x.gap(2), NONE);
        due("tug", x.tug(2), NONE);
        due("off", x.off(), NONE);
        due("astern", x.astern(), NONE);
        x.put(3, 99);
        due("wind, no HARM", x.wind(2), 49);
        due("gap, no HARM", x.gap(2), 4049);
        due("tug, no HARM", x.tug(2), 0);
        due("off, no HARM", x.off(), 120);
        due("astern, no HARM", x.astern(), 0);
        // A KNOCK without HARM (1 * 9 / 10 is 0) is none.
        String light = "gap 0 9999;ship 4000 9;screw 0 0;wheel 0;slow 0 0 0;wind 0;fender 0;";
        x = at(light, 5000, 0, 0, 0, 100);
        due("light: wind", x.wind(1), 99);
        due("light: tug", x.tug(1), 0);
        due("light: off", x.off(), 120);
        due("light: astern", x.astern(), 0);
        due("light: KNOCKS", x.tried(1, 11), 1);
        // All else of THE QUAY is as told: a fender of 2 bears a pace of 2, one of 1 does not, whatever G is.
        for (int fender : new int[] {1, 2}) {
            x = at("gap 0 9999;ship 4000 10;screw 0 0;wheel 0;slow 0 0 0;wind 0;give 50;fender " + fender + ";", 5000, 0, 0, 0, 299);
            due("fender " + fender + ": wind", x.wind(1), fender == 2 ? 99 : NONE);
            due("fender " + fender + ": gap", x.gap(1), fender == 2 ? 4049 : NONE);
            due("fender " + fender + ": tug", x.tug(1), fender == 2 ? 0 : NONE);
        }
        // HARM of before now does not count.
        x = at(quay, 5000, 0, 0, 0, 5000);
        x.go(1);
        due("harmed", x.now(10), 2500);
        due("wind since now", x.wind(1), 99);
        due("gap since now", x.gap(1), 4049);
        due("tug since now", x.tug(1), 0);
    }

    private static void secondsOfSearches() {
        sentence("Promises 23, 24, 25: for n seconds (1 .. 300) .. OUTSIDE");
        AlongsideLines x = at(CALM, 5000, 0);
        due("wind(1)", x.wind(1), 99);
        due("wind(300)", x.wind(300), 0);
        due("gap(1)", x.gap(1), 4049);
        due("gap(300)", x.gap(300), 4049);
        due("tug(1)", x.tug(1), 0);
        due("tug(300)", x.tug(300), 0);
        for (int n : new int[] {0, -1, 301, 600, LEAST, MOST}) {
            due("wind(" + n + ")", x.wind(n), OUTSIDE);
            due("gap(" + n + ")", x.gap(n), OUTSIDE);
            due("tug(" + n + ")", x.tug(n), OUTSIDE);
        }
        // By THE PLAN: T n less 1 is the last that is told.
        Checks.plan(x, "at 300 6 3;");
        x.put(3, 99);
        Checks.put(x, 5000, 0, 0, 0);
        due("T 300", x.wind(300), 0);
        Checks.plan(x, "at 0 3 3;at 296 6 3;");
        due("T 296: 120 of PACE", x.wind(300), NONE);
        Checks.plan(x, "at 0 3 3;at 297 6 3;");
        due("T 297: 90 of PACE", x.wind(300), 0);
        due("T 297: gap", x.gap(300), 4049);
        due("T 297: tug", x.tug(300), 0);
        due("T 297: tried", x.tried(300, 3), 90);
    }
}
