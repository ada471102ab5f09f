/** Promises 9 to 12: put, now, go, follow; with a second's forces, moves, knocks and the gap. */
public final class ShipTest {
    private static final String PLAIN = "gap 0 9999;ship 4000 10;screw 10 20;wheel 50;slow 10 20 30;wind 3;fender 5;";
    private static final String CALM = "gap 0 9999;ship 4000 10;screw 10 0;wheel 0;slow 0 0 0;wind 0;fender 5;";
    private static final Checks checks = new Checks();

    public static void main(String[] args) {
        putting();
        refusals();
        aSecond();
        aSecondTheOtherWay();
        heldValues();
        knocks();
        softKnocks();
        theGap();
        farOff();
        safe();
        following();
        checks.end();
    }

    private static void due(String call, long got, long want) {
        checks.due(call, got, want);
    }

    private static void nowIs(String when, AlongsideLines x, long... due) {
        for (int what = 0; what < due.length; what++) {
            due(when + ": now(" + what + ")", x.now(what), due[what]);
        }
    }

    private static void putting() {
        int[] least = {0, 0, -45000, -20000, -20000, -5000, -3, -3, 0};
        int[] most = {9999, 30000, 45000, 20000, 20000, 5000, 3, 3, 99};
        int[] first = {4500, 3000, 0, 0, 0, 0, 0, 0, 0};
        AlongsideLines x = new AlongsideLines();
        for (int what = 0; what < 9; what++) {
            due("put(" + what + ", least)", x.put(what, least[what]), first[what]);
            due("put(" + what + ", most)", x.put(what, most[what]), least[what]);
            due("put(" + what + ", below)", x.put(what, least[what] - 1), AlongsideLines.OUTSIDE);
            due("put(" + what + ", above)", x.put(what, most[what] + 1), AlongsideLines.OUTSIDE);
            due("now(" + what + ")", x.now(what), most[what]);
        }
        due("put(-1, 0)", x.put(-1, 0), AlongsideLines.OUTSIDE);
        due("put(9, 0)", x.put(9, 0), AlongsideLines.OUTSIDE);
        due("put(MIN, 0)", x.put(Integer.MIN_VALUE, 0), AlongsideLines.OUTSIDE);
        due("put(MAX, 0)", x.put(Integer.MAX_VALUE, 0), AlongsideLines.OUTSIDE);
    }

    private static void refusals() {
        AlongsideLines x = new AlongsideLines();
        due("now(-1)", x.now(-1), AlongsideLines.OUTSIDE);
        due("now(17)", x.now(17), AlongsideLines.OUTSIDE);
        int[] bad = {0, -1, 601, Integer.MIN_VALUE, Integer.MAX_VALUE};
        for (int n : bad) {
            due("go(" + n + ")", x.go(n), AlongsideLines.OUTSIDE);
            due("follow(" + n + ")", x.follow(n), AlongsideLines.OUTSIDE);
        }
        due("refused: now(9)", x.now(9), 0);
        due("go(600)", x.go(600), 0);
        due("follow(600)", x.follow(600), 0);
        due("now(9)", x.now(9), 1200);
    }

    /** PACE 1234 + 20 - 123; DRIFT 567 + 7 - 3 - 113; TURN 89 - 60 - 26; Y 1000 - 4 - 11 * 5730 / 57296. */
    private static void aSecond() {
        AlongsideLines x = Checks.at(PLAIN);
        Checks.put(x, 5000, 1000, 5730, 1234, 567, 89, 2, -1, 7);
        due("bow off", x.now(13), 1000 - 200);
        due("stern off", x.now(14), 1000 + 200);
        due("go(1)", x.go(1), 0);
        nowIs("a second", x, 5011, 995, 5733, 1131, 458, 3, 2, -1, 7, 1, 0, 0, 0, 795, 1195, 0, 0);
    }

    /** All cuts go towards 0; astern the screw walks her: -3 * 20 / 10. */
    private static void aSecondTheOtherWay() {
        AlongsideLines x = Checks.at(PLAIN);
        Checks.put(x, 5000, 1000, -5730, -1239, -569, -89, -3, -1, 0);
        x.go(1);
        // PACE -1239 - 30 + 123; DRIFT -569 - 3 + 113; TURN -89 + 12 * 50 / 10 + 26 - 6.
        nowIs("the other way", x, 4989, 1000 + 4 - 1, -5739, -1146, -459, -9);
        // With E 0 or above nothing walks.
        x = Checks.at(PLAIN);
        Checks.put(x, 5000, 1000, 0, 0, 0, 0, 3);
        x.go(1);
        due("ahead: TURN", x.now(5), 0);
        due("ahead: PACE", x.now(3), 30);
        // A light tug on a heavy ship: 9 * 10 / 99 is 0.
        x = Checks.at("ship 4000 99;wind 0;");
        x.put(8, 9);
        x.go(1);
        due("a light tug", x.now(4), 0);
        x.put(8, 10);
        x.go(1);
        due("a tug", x.now(4), 1);
    }

    private static void heldValues() {
        AlongsideLines x = Checks.at(CALM);
        Checks.put(x, 5000, 20000, 44999, 0, 0, 5);
        x.go(1);
        due("ANGLE held", x.now(2), 45000);
        due("TURN stays", x.now(5), 5);
        Checks.put(x, 5000, 20000, -44999, 0, 0, -5);
        x.go(1);
        due("ANGLE held below", x.now(2), -45000);
        // Six lines that pull with 999 each: 6 * 9990 is above what is held.
        x = Checks.at("gap 0 9999;ship 500 1;wind 0;slow 0 0 0;post 9999 999;");
        Checks.put(x, 1000, 0);
        for (int l = 0; l < 6; l++) {
            x.fast(l, 0, 0, 8000);
        }
        due("none parts", x.go(1), 0);
        due("PACE held", x.now(3), 50000);
        x = Checks.at("gap 0 9999;ship 9000 1;wind 0;slow 0 0 0;post 9000 999;");
        Checks.put(x, 4500, 10998);
        for (int l = 0; l < 6; l++) {
            x.fast(l, 100, 0, 9999);
        }
        due("none parts off", x.go(1), 0);
        due("DRIFT held", x.now(4), 50000);
        due("TURN held", x.now(5), 20000);
        // The wheel alone: 3 * 20000 / 100 * 99 / 1.
        x = Checks.at("ship 500 1;wheel 99;wind 0;");
        Checks.put(x, 4500, 20000, 0, -20000, 0, 0, 0, 3);
        x.go(1);
        due("TURN held below", x.now(5), -20000);
    }

    private static void knocks() {
        AlongsideLines x = Checks.at(CALM);
        Checks.put(x, 5000, 10, 0, 0, 1799);
        x.go(1);
        // Both ends come to -7 at a pace of 17: the bow knocks, which stops her ere the stern does.
        nowIs("a knock", x, 5000, 0, 0, 0, 0, 0, 0, 0, 0, 1, 17 * 17 * 10 / 10, 1, 0, 0, 0, 1, 0);
        // The bow alone: 2000 * 600 / 57296 is 20; pace (300 + 1000 * 600 / 57296 + 90 * 2000 / 573) / 100 is 6.
        Checks.put(x, 5000, 10, 510, 1000, 300, 90);
        x.go(1);
        nowIs("a bow's knock", x, 5010, 20, 600, 1000, 0, -30);
        due("a bow's knock: HARM", x.now(10), 289 + 6 * 6);
        due("a bow's knock: KNOCKS", x.now(11), 2);
        // The stern alone: ARM is below 0, TURN too.
        x = Checks.at(CALM);
        Checks.put(x, 5000, 10, -510, -1000, 300, -90);
        x.go(1);
        nowIs("a stern's knock", x, 4990, 20, -600, -1000, 0, 30);
        due("a stern's knock: HARM", x.now(10), 36);
        due("a stern's knock: KNOCKS", x.now(11), 1);
        // A square times a small weight over 10 may be nothing: 1 * 1 * 9 / 10.
        x = Checks.at("ship 4000 9;fender 0;wind 0;slow 0 0 0;");
        Checks.put(x, 4500, 0, 0, 0, 199);
        x.go(1);
        due("a light knock: KNOCKS", x.now(11), 1);
        due("a light knock: HARM", x.now(10), 0);
        due("a light knock: DRIFT", x.now(4), 0);
        // Bow first, then stern, the second by what the first left: Y is up by then.
        x = Checks.at("ship 4000 10;fender 0;wind 0;slow 0 0 0;");
        Checks.put(x, 4500, 100, 1000, 0, 15000);
        x.go(1);
        due("bow then stern: Y", x.now(1), 34);
        due("bow then stern: KNOCKS", x.now(11), 1);
    }

    private static void softKnocks() {
        // Fender 5: at a pace of 5 nobody is harmed, yet she stops.
        AlongsideLines x = Checks.at(CALM);
        Checks.put(x, 5000, 4, 0, 0, 599, 0);
        x.go(1);
        nowIs("soft", x, 5000, 0, 0, 0, 0, 0, 0, 0, 0, 1, 0, 0);
        Checks.put(x, 5000, 4, 0, 0, 600, 0);
        x.go(1);
        due("not soft: KNOCKS", x.now(11), 1);
        due("not soft: HARM", x.now(10), 36);
        // Pace 0: she is set off, but DRIFT and TURN stay as they are.
        x = Checks.at(CALM);
        Checks.put(x, 5000, 0, 1000, 0, -50, 4);
        x.go(1);
        nowIs("no pace", x, 5000, 35, 1004, 0, -50, 4, 0, 0, 0, 1, 0, 0);
    }

    private static void theGap() {
        String quay = "gap 1000 8000;ship 4000 20;slow 0 0 0;wind 0;";
        AlongsideLines x = Checks.at(quay);
        Checks.put(x, 5900, 3000, 0, 10000);
        x.go(1);
        nowIs("bow at B", x, 6000, 3000, 0, 10000);
        due("bow at B: HARM", x.now(10), 0);
        x.go(1);
        nowIs("bow beyond B", x, 6000, 3000, 0, 0);
        due("bow beyond B: HARM", x.now(10), 100 * 100 * 20 / 10);
        due("bow beyond B: KNOCKS", x.now(11), 0);
        Checks.put(x, 3100, 3000, 0, -10000);
        x.go(1);
        nowIs("stern at A", x, 3000, 3000, 0, -10000);
        x.go(1);
        nowIs("stern below A", x, 3000, 3000, 0, 0);
        due("stern below A: HARM", x.now(10), 40000);
        // Put beyond the gap and going back already: PACE is 0 all the same, without HARM.
        x = Checks.at(quay);
        Checks.put(x, 9000, 3000, 0, -500);
        x.go(1);
        nowIs("beyond B, astern", x, 6000, 3000, 0, 0);
        Checks.put(x, 0, 3000, 0, 500);
        x.go(1);
        nowIs("below A, ahead", x, 3000, 3000, 0, 0);
        Checks.put(x, 6001, 3000, 0, 99);
        x.go(1);
        nowIs("beyond B at less than 100", x, 6000, 3000, 0, 0);
        due("no HARM", x.now(10), 0);
        // She is longer than the gap: held at B first, then at A.
        x = Checks.at("gap 1000 2000;ship 4000 20;slow 0 0 0;wind 0;");
        Checks.put(x, 3000, 3000, 0, 1000);
        x.go(1);
        nowIs("too long", x, 3000, 3000, 0, 0);
        due("too long: HARM", x.now(10), 200);
    }

    private static void farOff() {
        AlongsideLines x = Checks.at(CALM);
        Checks.put(x, 5000, 29999, 0, 0, -300);
        x.go(1);
        due("Y held", x.now(1), 30000);
        due("DRIFT 0", x.now(4), 0);
        // Carried off by PACE at an ANGLE while she drifts in: DRIFT stays.
        Checks.put(x, 5000, 30000, -45000, 20000, 300);
        x.go(1);
        due("Y held again", x.now(1), 30000);
        due("DRIFT stays", x.now(4), 300);
        Checks.put(x, 5000, 29990, 0, 0, -1000);
        x.go(1);
        due("Y 30000", x.now(1), 30000);
        due("DRIFT at 30000", x.now(4), -1000);
    }

    private static void safe() {
        int[] good = {5000, 0, 0, 0, 0, 0};
        int[][] edges = {{3, 99, 100}, {3, -99, -100}, {4, 99, 100}, {4, -99, -100}, {5, 99, 100}, {5, -99, -100},
            {1, 299, 300}, {0, 2000, 1999}, {0, 7999, 8000}};
        for (int[] edge : edges) {
            AlongsideLines x = Checks.at(CALM);
            Checks.put(x, good);
            due("safe", x.now(15), 1);
            x.put(edge[0], edge[1]);
            due("safe at " + edge[0] + " " + edge[1], x.now(15), 1);
            x.put(edge[0], edge[2]);
            due("not safe at " + edge[0] + " " + edge[2], x.now(15), 0);
        }
        AlongsideLines x = Checks.at("ship 500 1;");
        Checks.put(x, 4500, 100, 1999);
        due("ANGLE 1999", x.now(15), 1);
        x.put(2, 2000);
        due("ANGLE 2000", x.now(15), 0);
        x.put(2, -1999);
        due("ANGLE -1999", x.now(15), 1);
        x.put(2, -2000);
        due("ANGLE -2000", x.now(15), 0);
        // Bow 299 and stern 301 off.
        x = Checks.at(CALM);
        Checks.put(x, 5000, 300, 29);
        due("stern 301 off", x.now(15), 0);
        due("stern", x.now(14), 301);
        // Held to 0 while Y and ANGLE would have the bow in the quay.
        Checks.put(x, 5000, 0, 1999);
        due("bow held", x.now(13), 0);
        due("stern off", x.now(14), 69);
        due("bow held: safe", x.now(15), 1);
    }

    private static void following() {
        AlongsideLines x = Checks.at(CALM);
        due("plan", Checks.plan(x, "at 2 5 4;at 4 0 0;"), 2);
        Checks.put(x, 5000, 3000, 0, 0, 0, 0, 1, -1);
        due("follow(2)", x.follow(2), 0);
        due("before the first: PACE", x.now(3), 20);
        due("before the first: E", x.now(6), 1);
        due("before the first: R", x.now(7), -1);
        // T counts from now on, anew each time.
        x.follow(3);
        due("1 1 2: PACE", x.now(3), 20 + 10 + 10 + 20);
        due("1 1 2: E", x.now(6), 2);
        due("1 1 2: R", x.now(7), 1);
        x.follow(4);
        due("2 2 2 2: PACE", x.now(3), 60 + 80);
        x.follow(5);
        due("2 2 2 2 -3: PACE", x.now(3), 140 + 80 - 30);
        due("2 2 2 2 -3: E", x.now(6), -3);
        due("2 2 2 2 -3: R", x.now(7), -3);
        // go() knows no plan.
        x.go(10);
        due("go: PACE", x.now(3), 190 - 300);
        due("seconds", x.now(9), 24);
        x.plan();
        x.follow(1);
        due("no plan: PACE", x.now(3), -140);
    }
}
