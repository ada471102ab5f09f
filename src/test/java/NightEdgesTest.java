/** Each sentence of the document on the night and on letting go that names an edge; promises 26 to 29. */
public final class NightEdgesTest {
    private static final int UNKNOWN = AlongsideLines.UNKNOWN, OUTSIDE = AlongsideLines.OUTSIDE, NOT = AlongsideLines.NOT, NONE = -1;
    private static final int LEAST = Integer.MIN_VALUE, MOST = Integer.MAX_VALUE;
    private static final Checks checks = new Checks();

    public static void main(String[] args) {
        needsRoot();
        needsAsNow();
        needsBounds();
        goodOverHours();
        goodAtEachHour();
        hourNothing();
        asLateAsCanBe();
        tendedNumbers();
        tendedBounds();
        wakesSet();
        wakesBounds();
        shares();
        loads();
        strains();
        allAtFirstOneAtLast();
        likeOrders();
        orderNumbers();
        checks.end();
    }

    private static void sentence(String words) {
        checks.sentence(words);
    }

    private static void due(String call, long got, long want) {
        checks.due(call, got, want);
    }

    /** Line 0 straight to its POST, line 1 to one 300 ahead, line 5 to one 400 astern. */
    private static AlongsideLines moored(String tide) {
        AlongsideLines x = Checks.at("gap 0 9999;ship 4000 10;post 5000 900;post 5300 900;post 4600 900;");
        Checks.put(x, 5000, 0);
        x.fast(0, 0, 0, 9999);
        x.fast(1, 0, 1, 9999);
        x.fast(5, 0, 2, 9999);
        Checks.tide(x, tide);
        return x;
    }

    private static String hours(int... heights) {
        StringBuilder text = new StringBuilder();
        for (int height : heights) {
            text.append("hour").append(height).append(';');
        }
        return text.toString();
    }

    private static void needsRoot() {
        sentence("NEEDS is the whole root of the squares of the way along and of (h and t less 300) together");
        // h, t, straight, 300 ahead, 400 astern.
        int[][] needs = {{0, 0, 300, 424, 500}, {300, 0, 0, 300, 400}, {0, 300, 0, 300, 400}, {301, 0, 1, 300, 400}, {299, 0, 1, 300, 400},
            {0, 299, 1, 300, 400}, {0, 301, 1, 300, 400}, {300, 400, 400, 500, 565}, {600, 0, 300, 424, 500}, {999, 999, 1698, 1724, 1744},
            {999, 0, 699, 760, 805}, {0, 999, 699, 760, 805}, {150, 150, 0, 300, 400}};
        for (int[] n : needs) {
            AlongsideLines x = moored(hours(n[1]));
            due("h " + n[0] + ", t " + n[1], x.needs(0, 0, n[0]), n[2]);
            due("300 ahead", x.needs(1, 0, n[0]), n[3]);
            due("400 astern", x.needs(5, 0, n[0]), n[4]);
        }
    }

    private static void needsAsNow() {
        sentence("lines from now's places (along as now, Y 0)");
        AlongsideLines x = moored(hours(300));
        Checks.put(x, 5000, 30000, 45000);
        due("Y and ANGLE do not matter", x.needs(1, 0, 0), 300);
        x.put(0, 5001);
        due("X does", x.needs(1, 0, 0), 299);
        x.fast(2, 100, 1, 0);
        x.fast(3, -100, 1, 0);
        due("from the bow", x.needs(2, 0, 0), 1701);
        due("from the stern", x.needs(3, 0, 0), 2299);
        x.veer(1, 5);
        due("N does not matter", x.needs(1, 0, 0), 299);
    }

    private static void needsBounds() {
        sentence("Promise 26: NEEDS of a line at an hour, deck h (0 .. 999). UNKNOWN (line, hour), OUTSIDE.");
        AlongsideLines x = moored(hours(10, 20, 30));
        due("h 0", x.needs(0, 0, 0), 290);
        due("h 999", x.needs(0, 2, 999), 729);
        for (int h : new int[] {-1, 1000, LEAST, MOST}) {
            due("h " + h, x.needs(0, 0, h), OUTSIDE);
            due("h " + h + ", no line", x.needs(2, 0, h), UNKNOWN);
            due("h " + h + ", no hour", x.needs(0, 3, h), UNKNOWN);
        }
        for (int hour : new int[] {-1, 3, 23, 24, LEAST, MOST}) {
            due("hour " + hour, x.needs(0, hour, 0), UNKNOWN);
        }
        for (int l : new int[] {-1, 2, 3, 4, 6, LEAST, MOST}) {
            due("line " + l, x.needs(l, 0, 0), UNKNOWN);
        }
        due("hour 0 of none", moored("").needs(0, 0, 0), UNKNOWN);
        due("hour 23 of 24", moored("hour7;".repeat(24)).needs(0, 23, 300), 7);
        due("hour 24 of 24", moored("hour7;".repeat(24)).needs(0, 24, 300), UNKNOWN);
    }

    private static void tendedAt(String when, AlongsideLines x, int l, int h, int... hours) {
        due(when + ": TENDED", x.tended(l, h, -1), hours.length);
        for (int k = 0; k < hours.length; k++) {
            due(when + ": hour " + k, x.tended(l, h, k), hours[k]);
        }
        due(when + ": not so many", x.tended(l, h, hours.length), NONE);
    }

    private static void goodOverHours() {
        sentence("A length is good over hours, if it is NEEDS or more at each and no more than 100 above NEEDS at each.");
        tendedAt("up 100", moored(hours(100, 200)), 0, 300, 0);
        tendedAt("up 101", moored(hours(100, 201)), 0, 300, 0, 1);
        tendedAt("down 100", moored(hours(200, 100)), 0, 300, 0);
        tendedAt("down 101", moored(hours(201, 100)), 0, 300, 0, 1);
        tendedAt("alike", moored(hours(0, 0, 0)), 0, 300, 0);
        // The height does not tell, NEEDS does: through the level of the quay and out again.
        tendedAt("100 below and 100 above", moored(hours(200, 400)), 0, 0, 0);
        tendedAt("100 below and 0", moored(hours(200, 300)), 0, 0, 0);
        tendedAt("101 below and 0", moored(hours(199, 300)), 0, 0, 0, 1);
        // 300 ahead: 300 and 400 of NEEDS are 0 and 264 high; 265 make 400, too, 266 make 401.
        tendedAt("300 and 400", moored(hours(0, 265)), 1, 300, 0);
        tendedAt("300 and 401", moored(hours(0, 268)), 1, 300, 0, 1);
    }

    private static void goodAtEachHour() {
        sentence("NEEDS or more at each and no more than 100 above NEEDS at each");
        // Each is within 100 of the one ahead, not of all.
        tendedAt("up and up", moored(hours(100, 200, 201)), 0, 300, 0, 2);
        tendedAt("down and down", moored(hours(300, 200, 199)), 0, 300, 0, 2);
        tendedAt("up and down", moored(hours(100, 150, 200, 100, 150, 200)), 0, 300, 0);
        tendedAt("up and too far down", moored(hours(100, 200, 99)), 0, 300, 0, 2);
        tendedAt("down and too far up", moored(hours(200, 100, 201)), 0, 300, 0, 2);
        tendedAt("each anew", moored(hours(0, 101, 202, 303)), 0, 300, 0, 1, 2, 3);
        // What was good before a length is told anew counts no more.
        tendedAt("anew", moored(hours(0, 150, 250, 150, 50)), 0, 300, 0, 1, 4);
    }

    private static void hourNothing() {
        sentence("TENDED: the fewest times a line's length must be told (hour 0, too) so that it is always good");
        tendedAt("one hour", moored(hours(999)), 0, 999, 0);
        tendedAt("no hour", moored(""), 0, 300);
        tendedAt("24 alike", moored("hour5;".repeat(24)), 0, 300, 0);
        AlongsideLines x = moored("hour0;hour101;".repeat(12));
        due("24 unlike", x.tended(0, 300, -1), 24);
        for (int k = 0; k < 24; k++) {
            due("hour " + k, x.tended(0, 300, k), k);
        }
        due("not so many", x.tended(0, 300, 24), NONE);
    }

    private static void asLateAsCanBe() {
        sentence("WHEN: these hours, from hour 0 on each next one as late as can be");
        // 1 could be told anew at hour 1, 2 or 3: 3 is the latest.
        tendedAt("late", moored(hours(100, 150, 150, 201, 201)), 0, 300, 0, 3);
        tendedAt("late, down", moored(hours(300, 250, 250, 199, 150)), 0, 300, 0, 3);
        tendedAt("late twice", moored(hours(0, 50, 101, 150, 202, 202, 303)), 0, 300, 0, 2, 4, 6);
        tendedAt("last hour", moored("hour0;".repeat(23) + "hour101;"), 0, 300, 0, 23);
    }

    private static void tendedNumbers() {
        sentence("Promise 27: TENDED (what = NONE), else the what-th hour of WHEN; NONE: not so many.");
        AlongsideLines x = moored(hours(0, 101, 0));
        due("NONE", x.tended(0, 300, -1), 3);
        due("0", x.tended(0, 300, 0), 0);
        due("2", x.tended(0, 300, 2), 2);
        due("3", x.tended(0, 300, 3), NONE);
        due("24", x.tended(0, 300, 24), NONE);
        due("MOST", x.tended(0, 300, MOST), NONE);
        due("-2", x.tended(0, 300, -2), NONE);
        due("LEAST", x.tended(0, 300, LEAST), NONE);
    }

    private static void tendedBounds() {
        sentence("Promise 27: UNKNOWN (line), OUTSIDE (h).");
        AlongsideLines x = moored(hours(100, 201));
        due("h 0", x.tended(0, 0, -1), 2);
        due("h 999", x.tended(0, 999, -1), 2);
        for (int h : new int[] {-1, 1000, LEAST, MOST}) {
            for (int what : new int[] {-2, -1, 0, 5}) {
                due("h " + h, x.tended(0, h, what), OUTSIDE);
                due("h " + h + ", no line", x.tended(2, h, what), UNKNOWN);
            }
        }
        for (int l : new int[] {-1, 2, 3, 4, 6, LEAST, MOST}) {
            due("line " + l, x.tended(l, 0, -1), UNKNOWN);
        }
    }

    private static void wakesSet() {
        sentence("WAKES: hours at which some line is told (each as told), as a SET.");
        due("no line", new AlongsideLines().wakes(300), 0);
        AlongsideLines x = moored("");
        due("no TIDE", x.wakes(300), 0);
        due("one hour", moored(hours(5)).wakes(300), 1);
        // Line 0 wakes at 1, 2 and 3; line 1, 300 ahead, at 2; line 5, 400 astern, at 2, too, but not at 3.
        x = moored(hours(0, 101, 300, 401));
        tendedAt("line 0", x, 0, 300, 0, 1, 2, 3);
        tendedAt("line 1", x, 1, 300, 0, 2);
        tendedAt("line 5", x, 5, 300, 0, 3);
        due("all", x.wakes(300), 1 + 2 + 4 + 8);
        x.cast(0);
        due("without 0", x.wakes(300), 1 + 4 + 8);
        x.cast(1);
        due("line 5 alone", x.wakes(300), 1 + 8);
        x.cast(5);
        due("none", x.wakes(300), 0);
        x = moored("hour0;".repeat(23) + "hour101;");
        due("hour 23", x.wakes(300), 1 + (1 << 23));
        due("all 24", moored("hour0;hour101;".repeat(12)).wakes(300), (1 << 24) - 1);
    }

    private static void wakesBounds() {
        sentence("Promise 28: WAKES: the SET. OUTSIDE.");
        AlongsideLines x = moored(hours(0, 101));
        due("h 0", x.wakes(0), 1 + 2);
        due("h 999", x.wakes(999), 1 + 2);
        for (int h : new int[] {-1, 1000, LEAST, MOST}) {
            due("h " + h, x.wakes(h), OUTSIDE);
            due("h " + h + " of a new object", new AlongsideLines().wakes(h), OUTSIDE);
        }
    }

    // -- letting go

    private static void orderIs(String when, AlongsideLines x, int greatest, int... lines) {
        due(when + ": greatest", x.order(-1), greatest);
        for (int j = 0; j < lines.length; j++) {
            due(when + ": order(" + j + ")", x.order(j), lines[j]);
        }
        due(when + ": behind the last", x.order(lines.length), NONE);
    }

    private static void shares() {
        sentence("lines have SHARES: 1 and the way off / 10 of each");
        // F M 10 is 600: the stern's POST of 100 strains by its SHARE of all of them, and that is the greatest.
        // Y, ANGLE, bow off, stern off, the greatest STRAIN.
        int[][] offs = {{0, 0, 0, 0, 300}, {9, 0, 9, 9, 300}, {10, 0, 10, 10, 300}, {5, 144, 0, 10, 400}, {10, 258, 1, 19, 400}, {10, 287, 0, 20, 450},
            {15, 430, 0, 30, 480}, {45, 1290, 0, 90, 545}, {0, 1290, 0, 45, 500}};
        for (int[] off : offs) {
            AlongsideLines x = Checks.at("gap 0 9999;ship 4000 20;wind 3;post 1 100;post 2 999;");
            Checks.put(x, 5000, off[0], off[1]);
            due("bow", x.now(13), off[2]);
            due("stern", x.now(14), off[3]);
            x.fast(0, -100, 0, 9999);
            x.fast(1, 100, 1, 9999);
            orderIs("stern off by " + off[3], x, off[4], 0, 1);
        }
    }

    private static void loads() {
        sentence("a line's LOAD, with those that still hold: F times M times 10 times its SHARE / the sum of SHARES of those");
        // 10 in all: of three 3 each (of strength 1: 300), of two 5 each, one alone 10; cut ere STRAIN is taken.
        AlongsideLines x = Checks.at("ship 4000 1;wind 1;post 1 1;post 2 999;");
        x.put(1, 0);
        x.fast(0, 0, 0, 9999);
        x.fast(1, 0, 1, 9999);
        x.fast(2, 0, 1, 9999);
        orderIs("three", x, 300, 0, 1, 2);
        x.cast(2);
        orderIs("two", x, 500, 0, 1);
        x.cast(1);
        orderIs("one", x, 1000, 0);
        // The most of all: 99 * 99 * 10 on a POST of 1.
        x = Checks.at("ship 4000 99;wind 99;post 1 1;");
        x.put(1, 30000);
        x.fast(3, -100, 0, 9999);
        orderIs("the most", x, 9801000, 3);
        for (int l = 0; l < 6; l++) {
            x.fast(l, -100, 0, 9999);
        }
        orderIs("six of the most", x, 9801000, 0, 1, 2, 3, 4, 5);
    }

    private static void strains() {
        sentence("STRAIN: LOAD times 100 / its POST's strength");
        int[][] strengths = {{1, 60000}, {600, 100}, {601, 99}, {599, 100}, {999, 60}, {300, 200}};
        for (int[] s : strengths) {
            AlongsideLines x = Checks.at("ship 4000 20;wind 3;post 1 " + s[0] + ";");
            x.put(1, 0);
            x.fast(2, 0, 0, 9999);
            orderIs("strength " + s[0], x, s[1], 2);
        }
        AlongsideLines x = Checks.at("wind 0;post 1 1;");
        x.fast(2, 0, 0, 9999);
        orderIs("no wind", x, 0, 2);
    }

    private static void allAtFirstOneAtLast() {
        sentence("the greatest STRAIN of any line that holds (all of them at first, one alone at last) is least");
        // All at first: 300 on a POST of 10 is 3000, whatever comes then.
        AlongsideLines x = Checks.at("ship 4000 20;wind 3;post 1 10;post 2 900;");
        x.put(1, 0);
        x.fast(0, 0, 1, 9999);
        x.fast(1, 0, 0, 9999);
        // The strong one first would be 6000 on the weak one alone.
        orderIs("weak one first", x, 3000, 1, 0);
        // One alone at last: 600 on a POST of 900 is 66, more than 33 of two.
        x.cast(1);
        x.fast(1, 0, 1, 9999);
        orderIs("one at last", x, 66, 0, 1);
    }

    private static void likeOrders() {
        sentence("of like ones the first (LINE by LINE the lesser ahead)");
        AlongsideLines x = Checks.at("ship 4000 20;wind 3;post 1 300;post 2 299;");
        x.put(1, 0);
        for (int l = 5; l >= 0; l--) {
            x.fast(l, 0, 0, 9999);
        }
        orderIs("six alike", x, 200, 0, 1, 2, 3, 4, 5);
        // 600 of 299 alone is 200 as well (200.6): still alike. So the weaker one may be the last.
        x.cast(5);
        x.fast(5, 0, 1, 9999);
        orderIs("5 as good as alike", x, 200, 0, 1, 2, 3, 4, 5);
        x = Checks.at("ship 4000 20;wind 3;post 1 300;post 2 298;");
        x.put(1, 0);
        x.fast(1, 0, 0, 9999);
        x.fast(3, 0, 0, 9999);
        x.fast(5, 0, 1, 9999);
        // 600 of 298 is 201: 5 must not be the last, and it is the lesser one of the others that goes first.
        orderIs("5 not last", x, 200, 1, 5, 3);
    }

    private static void orderNumbers() {
        sentence("Promise 29: j = NONE the greatest STRAIN, else the j-th line that is let go (the last one too); NONE (j below NONE, too). NOT: no lines.");
        AlongsideLines x = moored("");
        due("greatest", x.order(-1), 22);
        due("order(0)", x.order(0), 0);
        due("order(1)", x.order(1), 1);
        due("order(2)", x.order(2), 5);
        for (int j : new int[] {3, 4, 5, 6, MOST, -2, -3, LEAST}) {
            due("order(" + j + ")", x.order(j), NONE);
        }
        for (int j : new int[] {-2, -1, 0, 1, LEAST, MOST}) {
            due("order(" + j + ") of none", new AlongsideLines().order(j), NOT);
        }
        x.cast(0);
        x.cast(1);
        due("one: order(0)", x.order(0), 5);
        due("one: order(1)", x.order(1), NONE);
        x.cast(5);
        due("none", x.order(0), NOT);
        // Lines that parted hold no more.
        x.fast(2, 0, 0, 0);
        x.put(1, 30000);
        x.go(1);
        due("parted", x.order(-1), NOT);
    }
}
