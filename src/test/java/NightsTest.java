/** Promises 26 to 29: needs, tended, wakes, order. */
public final class NightsTest {
    private static final int UNKNOWN = AlongsideLines.UNKNOWN, OUTSIDE = AlongsideLines.OUTSIDE, NONE = AlongsideLines.NONE;
    private static final Checks checks = new Checks();

    public static void main(String[] args) {
        needing();
        tending();
        refusals();
        ordering();
        likeOrders();
        checks.end();
    }

    private static void due(String call, long got, long want) {
        checks.due(call, got, want);
    }

    /** Her middle is at 5000; posts right there, 300 ahead of it, and at her bow. */
    private static AlongsideLines moored() {
        AlongsideLines x = Checks.at("gap 0 9999;ship 4000 10;post 5000 900;post 5300 900;post 7000 900;");
        Checks.put(x, 5000, 2000, 20000);
        x.fast(0, 0, 0, 9999);
        x.fast(2, 0, 1, 9999);
        x.fast(5, 100, 2, 9999);
        return x;
    }

    private static void needing() {
        AlongsideLines x = moored();
        due("tide", Checks.tide(x, "hour 400;hour 0;hour 999;"), 3);
        due("straight up", x.needs(0, 0, 300), 400);
        due("300 and 400", x.needs(2, 0, 300), 500);
        due("down", x.needs(0, 1, 0), 300);
        due("300 and 300 down", x.needs(2, 1, 0), 424);
        due("level", x.needs(2, 1, 300), 300);
        due("none at all", x.needs(5, 1, 300), 0);
        due("most", x.needs(0, 2, 999), 1698);
    }

    private static void tending() {
        AlongsideLines x = moored();
        due("no tide: tended", x.tended(0, 300, -1), 0);
        due("no tide: first", x.tended(0, 300, 0), NONE);
        due("no tide: wakes", x.wakes(300), 0);
        Checks.tide(x, "hour 100;hour 150;hour 200;hour 201;hour 250;hour 100;");
        due("tended", x.tended(0, 300, -1), 3);
        int[] when = {0, 3, 5, NONE};
        for (int k = 0; k < when.length; k++) {
            due("tended " + k, x.tended(0, 300, k), when[k]);
        }
        due("tended -2", x.tended(0, 300, -2), NONE);
        due("tended MIN", x.tended(0, 300, Integer.MIN_VALUE), NONE);
        due("tended MAX", x.tended(0, 300, Integer.MAX_VALUE), NONE);
        // 300 along: 316, 335, 360, 361, 390, 316: no more than 100 apart.
        due("flatter", x.tended(2, 300, -1), 1);
        due("flatter, first", x.tended(2, 300, 0), 0);
        due("wakes", x.wakes(300), 1 + 8 + 32);
        x.cast(0);
        x.cast(5);
        due("wakes of the flatter one", x.wakes(300), 1);
        // Both the least and the greatest of all hours since it was told count.
        x = moored();
        Checks.tide(x, "hour 150;hour 200;hour 100;hour 201;hour 301;hour 302;hour 202;hour 201;");
        due("least and greatest", x.tended(0, 300, -1), 4);
        int[] hours = {0, 3, 5, 7, NONE};
        for (int k = 0; k < hours.length; k++) {
            due("least and greatest " + k, x.tended(0, 300, k), hours[k]);
        }
        // Other lines wake at other hours: 0 of length 0 as t is; 300 along changes less.
        x = moored();
        Checks.tide(x, "hour 0;hour 101;hour 400;hour 500;");
        due("steep", x.tended(0, 300, -1), 3);
        due("less steep", x.tended(2, 300, -1), 2);
        due("less steep 1", x.tended(2, 300, 1), 2);
        due("wakes of both", x.wakes(300), 1 + 2 + 4);
        x = moored();
        StringBuilder tide = new StringBuilder();
        for (int k = 0; k < 24; k++) {
            tide.append(k % 2 == 0 ? "hour 0;" : "hour 900;");
        }
        Checks.tide(x, tide.toString());
        due("every hour", x.tended(0, 300, -1), 24);
        due("every hour wakes", x.wakes(300), (1 << 24) - 1);
        due("the last hour", x.tended(0, 300, 23), 23);
        due("one too many", x.tended(0, 300, 24), NONE);
    }

    private static void refusals() {
        AlongsideLines x = moored();
        Checks.tide(x, "hour 5;");
        due("needs(1)", x.needs(1, 0, 1000), UNKNOWN);
        due("needs(-1)", x.needs(-1, 0, 0), UNKNOWN);
        due("needs(6)", x.needs(6, 0, 0), UNKNOWN);
        due("needs hour 1", x.needs(0, 1, 1000), UNKNOWN);
        due("needs hour -1", x.needs(0, -1, 0), UNKNOWN);
        due("tended(1)", x.tended(1, 1000, 0), UNKNOWN);
        due("tended(-1)", x.tended(-1, 0, 0), UNKNOWN);
        due("tended(6)", x.tended(6, 0, 0), UNKNOWN);
        for (int h : new int[] {-1, 1000}) {
            due("needs deck " + h, x.needs(0, 0, h), OUTSIDE);
            due("tended deck " + h, x.tended(0, h, -1), OUTSIDE);
            due("wakes deck " + h, x.wakes(h), OUTSIDE);
        }
        due("wakes(0)", x.wakes(0), 1);
        due("wakes(999)", x.wakes(999), 1);
        due("no lines", new AlongsideLines().order(-1), AlongsideLines.NOT);
        due("no lines, no number", new AlongsideLines().order(-2), AlongsideLines.NOT);
    }

    private static void orderIs(String when, AlongsideLines x, int greatest, int... lines) {
        due(when + ": greatest", x.order(-1), greatest);
        for (int j = 0; j < lines.length; j++) {
            due(when + ": order(" + j + ")", x.order(j), lines[j]);
        }
        due(when + ": behind the last", x.order(lines.length), NONE);
        due(when + ": order(-2)", x.order(-2), NONE);
        due(when + ": order(MAX)", x.order(Integer.MAX_VALUE), NONE);
        due(when + ": order(MIN)", x.order(Integer.MIN_VALUE), NONE);
    }

    private static void ordering() {
        // 600 in all: 300 each (75, 100), then 600 on one alone: 150 of 400, 200 of 300.
        AlongsideLines x = Checks.at("ship 4000 20;wind 3;post 1 400;post 2 300;post 3 999;post 4 500;");
        x.put(1, 0);
        x.fast(1, 0, 0, 9999);
        x.fast(4, 0, 1, 9999);
        orderIs("two", x, 150, 4, 1);
        // The strongest is kept for the last: 200 each (50, 66, 20), 300 each (75, 30), then 60.
        x.fast(5, 0, 2, 9999);
        orderIs("three", x, 75, 4, 1, 5);
        // One alone.
        x.cast(1);
        x.cast(4);
        orderIs("one", x, 60, 5);
        // SHARES by the way off: bow 1 and 0 / 10, stern 1 and 200 / 10: 1 and 21 of 22.
        x = Checks.at("ship 4000 20;wind 3;fender 0;post 1 100;post 2 900;");
        Checks.put(x, 4500, 100, 2865);
        due("bow off", x.now(13), 0);
        due("stern off", x.now(14), 200);
        x.fast(0, -100, 1, 9999);
        x.fast(1, 100, 0, 9999);
        // All: 600 * 21 / 22 is 572, of 900 63; 600 / 22 is 27, of 100 27. Then 600 of 900 is 66, of 100 600.
        orderIs("shares", x, 66, 1, 0);
        // The stern's post of 100 is the weak one, from the beginning on: 572.
        x.cast(0);
        x.cast(1);
        x.fast(0, -100, 0, 9999);
        x.fast(1, 100, 1, 9999);
        orderIs("shares the other way", x, 572, 0, 1);
        // No wind, no STRAIN: the lesser number ahead.
        x = Checks.at("wind 0;post 1 1;post 2 2;");
        x.fast(5, 0, 0, 0);
        x.fast(2, 0, 1, 0);
        x.fast(0, 0, 1, 0);
        orderIs("no wind", x, 0, 0, 2, 5);
    }

    private static void likeOrders() {
        // All alike: the first of all orders. One weak: it goes while the rest still bears.
        AlongsideLines x = Checks.at("ship 4000 20;wind 3;post 1 300;post 2 100;");
        x.put(1, 0);
        for (int l = 0; l < 6; l++) {
            x.fast(l, 0, 0, 9999);
        }
        orderIs("alike", x, 200, 0, 1, 2, 3, 4, 5);
        x.cast(4);
        x.fast(4, 0, 1, 9999);
        // 200 of a hundred come at last anyhow: so much the weak one bears while three hold, but not while two do.
        orderIs("one weak", x, 200, 0, 1, 2, 4, 3, 5);
    }
}
