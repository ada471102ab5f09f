/** What the document says of all its numbers, sets and objects before anything else, at its edges. */
public final class TermsEdgesTest {
    private static final Checks checks = new Checks();

    public static void main(String[] args) {
        cutTowardsNothing();
        numberedFromNothing();
        setsOfBits();
        lastOf512Calls();
        harmBeyondAnInt();
        lettersOfOneLong();
        checks.end();
    }

    private static void due(String call, long got, long want) {
        checks.due(call, got, want);
    }

    private static void cutTowardsNothing() {
        checks.sentence("All numbers are whole; / cuts towards 0.");
        // D 50: 3 loses 1, and so does -3. PACE 199 and -199 are 1 a second each way.
        for (int sign : new int[] {1, -1}) {
            AlongsideLines x = Checks.at("gap 0 9999;ship 500 10;slow 50 50 50;wind 0;screw 0 0;wheel 0;");
            Checks.put(x, 5000, 9000, 0, 3 * sign, 3 * sign, 3 * sign);
            x.go(1);
            due("PACE", x.now(3), 2 * sign);
            due("DRIFT", x.now(4), 2 * sign);
            due("TURN", x.now(5), 2 * sign);
            x = Checks.at("gap 0 9999;ship 500 10;slow 0 0 0;wind 0;screw 0 0;wheel 0;");
            Checks.put(x, 5000, 9000, 0, 199 * sign, 199 * sign);
            x.go(1);
            due("X", x.now(0), 5000 + sign);
            due("Y", x.now(1), 9000 - sign);
        }
    }

    private static void numberedFromNothing() {
        checks.sentence("What has a number has it from 0 on, as it comes.");
        AlongsideLines x = Checks.at("post 9000 3;post 10 2;post 500 1;");
        int[] places = {9000, 10, 500};
        for (int k = 0; k < 3; k++) {
            due("post(" + k + ", 0)", x.post(k, 0), places[k]);
            due("post(" + k + ", 1)", x.post(k, 1), 3 - k);
        }
        x.put(0, 10);
        x.put(1, 0);
        Checks.tide(x, "hour 900;hour 5;hour 300;");
        x.fast(4, 0, 1, 0);
        int[] heights = {900, 5, 300};
        for (int hour = 0; hour < 3; hour++) {
            due("hour " + hour, x.needs(4, hour, 300), heights[hour]);
        }
        x.log(11);
        x.log(12);
        due("entry 1", x.judge(1), 1);
    }

    private static void setsOfBits() {
        checks.sentence("A SET is a whole number, bit k for k.");
        AlongsideLines x = Checks.at("gap 0 9999;ship 4000 10;post 5000 9;");
        Checks.put(x, 5000, 0);
        due("empty", x.does(0, 0), 0);
        x.put(0, 4999);
        due("{0}", x.does(0, 0), 1);
        x.put(0, 5001);
        due("{1}", x.does(0, 0), 2);
        Checks.put(x, 5000, 1);
        due("{2}", x.does(0, 0), 4);
        x.put(0, 3000);
        due("{2, 3}", x.does(100, 0), 12);
        x.put(0, 7000);
        due("{2, 4}", x.does(-100, 0), 20);
    }

    private static void lastOf512Calls() {
        checks.sentence("An object is used for at most 512 calls after it has been made");
        AlongsideLines x = new AlongsideLines();
        for (int call = 1; call <= 511; call++) {
            due("go(600), call " + call, x.go(600), 0);
        }
        due("now(9), call 512", x.now(9), 511 * 600);
        x = new AlongsideLines();
        for (int call = 1; call <= 511; call++) {
            x.feed(8, 0x2020202020202020L);
        }
        due("told(16), call 512", x.told(16), 296);
        x = Checks.at("post 4500 9;");
        x.put(1, 30000);
        for (int call = 5; call <= 511; call++) {
            x.heave(call % 6, 0, 0);
        }
        due("now(12), call 512", x.now(12), 507);
    }

    private static void harmBeyondAnInt() {
        checks.sentence("HARM is more by its square times M / 10");
        AlongsideLines x = Checks.at("gap 0 9999;ship 9000 99;screw 0 0;wheel 0;slow 0 0 0;wind 0;fender 0;post 9500 999;");
        Checks.put(x, 5000, 1000);
        for (int l = 0; l < 6; l++) {
            x.fast(l, 100, 0, 1);
        }
        // Six lines turn her by 20000 in a second: (600 + 20000 * 4500 / 573) / 100 is 1576.
        long harm = 1576L * 1576 * 99 / 10;
        for (int round = 1; round <= 90; round++) {
            x.put(1, 1000);
            x.put(2, 0);
            x.put(4, 0);
            x.put(5, 0);
            due("none parts", x.go(1), 0);
            if (round == 1 || round > 86) {
                due("HARM, round " + round, x.now(10), round * harm);
            }
        }
        due("more than an int holds", x.now(10) > Integer.MAX_VALUE ? 1 : 0, 1);
        due("KNOCKS", x.now(11), 90);
        x.keep(0);
        x.put(4, 0);
        due("tried", x.tried(1, 10) >= 90 * harm ? 1 : 0, 1);
        x.goBack(0);
        due("kept", x.now(10), 90 * harm);
    }

    private static void lettersOfOneLong() {
        checks.sentence("The lowest n bytes (1 .. 8) of a long, the highest of these first");
        AlongsideLines x = new AlongsideLines();
        // 'wind 78;' whole, then its last three bytes again as the lowest of another long.
        x.feed(8, 0x77696e642037383bL);
        due("quay()", x.quay(), 0);
        due("wind", x.told(10), 78);
        x.feed(5, 0x616263_77696e6420L);
        x.feed(3, 0x77696e642037393bL);
        due("quay()", x.quay(), 0);
        due("wind", x.told(10), 79);
    }
}
