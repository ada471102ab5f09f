import java.math.BigInteger;

/** Each sentence of the document on lines and heaves that names an edge; promises 13 to 19. */
public final class LineEdgesTest {
    private static final int UNKNOWN = AlongsideLines.UNKNOWN, OUTSIDE = AlongsideLines.OUTSIDE, NOT = AlongsideLines.NOT;
    private static final int LEAST = Integer.MIN_VALUE, MOST = Integer.MAX_VALUE;
    /** POST 0 is at 5000, POST 1 at 6000; HALF is 2000. */
    private static final String QUAY = "gap 0 9999;ship 4000 10;screw 0 0;wheel 0;slow 0 0 0;wind 0;post 5000 999;post 6000 999;";
    private static final Checks checks = new Checks();

    public static void main(String[] args) {
        sixLines();
        fastNumbers();
        fastPlaces();
        fastPosts();
        fastLengths();
        fastAlready();
        heaveBelow();
        heaveFast();
        heaveFalls();
        drawsWrap();
        heaveNumbers();
        oddsAtLeastNothing();
        oddsBounds();
        veering();
        casting();
        lineReadings();
        doesAlong();
        doesIn();
        doesBounds();
        checks.end();
    }

    private static void sentence(String words) {
        checks.sentence(words);
    }

    private static void due(String call, long got, long want) {
        checks.due(call, got, want);
    }

    /** Her middle is off POST 0 by y. */
    private static AlongsideLines off(int y) {
        AlongsideLines x = Checks.at(QUAY);
        Checks.put(x, 5000, y);
        return x;
    }

    private static void sixLines() {
        sentence("LINES (6 at most) go from a place of her to a POST, each with a length N");
        AlongsideLines x = off(0);
        for (int l = 5; l >= 0; l--) {
            due("lines", x.now(16), 5 - l);
            due("fast(" + l + ")", x.fast(l, l - 3, l % 2, 100 + l), 100 + l);
        }
        due("six", x.now(16), 6);
        for (int l = 0; l < 6; l++) {
            due("place", x.line(l, 0), l - 3);
            due("POST", x.line(l, 1), l % 2);
            due("N", x.line(l, 2), 100 + l);
        }
        due("a seventh", x.fast(6, 0, 0, 0), UNKNOWN);
        due("six still", x.now(16), 6);
    }

    private static void fastNumbers() {
        sentence("Promise 13: Line l (0 .. 5) is made fast");
        for (int l = 0; l < 6; l++) {
            AlongsideLines x = off(0);
            due("fast(" + l + ")", x.fast(l, 0, 0, 7), 7);
            for (int other = 0; other < 6; other++) {
                due("line(" + other + ", 2)", x.line(other, 2), other == l ? 7 : UNKNOWN);
            }
        }
        for (int l : new int[] {-1, 6, LEAST, MOST}) {
            due("fast(" + l + ")", off(0).fast(l, 0, 0, 7), UNKNOWN);
        }
    }

    private static void fastPlaces() {
        sentence("Promise 13: OUTSIDE (p -100 .. 100)");
        for (int p : new int[] {-100, -99, 0, 99, 100}) {
            AlongsideLines x = off(0);
            due("fast from " + p, x.fast(0, p, 0, -1), Math.abs(20 * p));
            due("place", x.line(0, 0), p);
        }
        for (int p : new int[] {-101, 101, LEAST, MOST}) {
            due("fast from " + p, off(0).fast(0, p, 0, -1), OUTSIDE);
        }
    }

    private static void fastPosts() {
        sentence("Promise 13: UNKNOWN (a POST that there is not)");
        AlongsideLines x = off(0);
        due("POST 0", x.fast(0, 0, 0, -1), 0);
        due("POST 1", x.fast(1, 0, 1, -1), 1000);
        for (int post : new int[] {-1, 2, 11, 12, LEAST, MOST}) {
            due("POST " + post, x.fast(2, 0, post, -1), UNKNOWN);
        }
        due("POST 0 of none", new AlongsideLines().fast(0, 0, 0, -1), UNKNOWN);
    }

    private static void fastLengths() {
        sentence("Promise 13: with length N (0 .. 9999; NONE: as DISTANCE is): N");
        for (int n : new int[] {0, 1, 9998, 9999}) {
            AlongsideLines x = off(500);
            due("by " + n, x.fast(0, 0, 0, n), n);
            due("N", x.line(0, 2), n);
        }
        for (int n : new int[] {-2, 10000, LEAST, MOST}) {
            due("by " + n, off(500).fast(0, 0, 0, n), OUTSIDE);
        }
        for (int y : new int[] {0, 1, 9999, 10000, 30000}) {
            AlongsideLines x = off(y);
            due("as DISTANCE is", x.fast(0, 0, 0, -1), y);
            due("N", x.line(0, 2), y);
            due("PULL", x.line(0, 4), 0);
        }
    }

    private static void fastAlready() {
        sentence("Promise 13: NOT: it is fast already");
        AlongsideLines x = off(0);
        x.fast(2, 10, 1, 77);
        due("again", x.fast(2, 10, 1, 77), NOT);
        due("another", x.fast(2, 0, 0, 5), NOT);
        due("N as it was", x.line(2, 2), 77);
        due("place as it was", x.line(2, 0), 10);
        due("heaved", x.heave(2, 0, 0), NOT);
        due("another line", x.fast(3, 0, 0, 5), 5);
        x.cast(2);
        due("when let go", x.fast(2, 0, 0, 5), 5);
        x.cast(2);
        due("heaved when let go", x.heave(2, 0, 0), 1);
        due("fast by a heave", x.fast(2, 0, 0, 5), NOT);
    }

    /** The DRAW of 100 with which a seed goes on, by the document's own words. */
    private static int draw(int seed) {
        return next(seed) / 65536 % 100;
    }

    private static int next(int seed) {
        return BigInteger.valueOf(seed).multiply(BigInteger.valueOf(1103515245)).add(BigInteger.valueOf(12345))
            .mod(BigInteger.ONE.shiftLeft(31)).intValueExact();
    }

    private static void heaveBelow() {
        sentence("a DRAW of 100 below 100 less DISTANCE / 50: the line is fast");
        boolean nothing = false;
        boolean most = false;
        for (int seed = 0; seed < 400; seed++) {
            int draw = draw(seed);
            nothing |= draw == 0;
            most |= draw == 99;
            // ODDS as great as the DRAW do not do; one more does.
            AlongsideLines x = off((100 - draw) * 50);
            x.seed(seed);
            due("ODDS of the DRAW", x.odds(0, 0), draw);
            due("DRAW " + draw + " of ODDS " + draw, x.heave(0, 0, 0), 0);
            x = off((100 - draw) * 50 - 1);
            x.seed(seed);
            due("ODDS one above it", x.odds(0, 0), draw + 1);
            due("DRAW " + draw + " of ODDS " + (draw + 1), x.heave(0, 0, 0), 1);
        }
        due("a DRAW of 0 was among them", nothing ? 1 : 0, 1);
        due("a DRAW of 99 was among them", most ? 1 : 0, 1);
    }

    private static void heaveFast() {
        sentence("the line is fast, with N as DISTANCE is");
        AlongsideLines x = off(400);
        Checks.put(x, 4700, 400);
        // Seed 0: a DRAW of 0.
        due("heave", x.heave(4, 0, 0), 1);
        due("place", x.line(4, 0), 0);
        due("POST", x.line(4, 1), 0);
        due("N", x.line(4, 2), 500);
        due("PULL", x.line(4, 4), 0);
        due("none fell", x.now(12), 0);
        due("lines", x.now(16), 1);
        // At the POST itself N is 0, and no DRAW is too high for ODDS of 100.
        for (int seed = 0; seed < 300; seed++) {
            x = off(49);
            x.seed(seed);
            due("ODDS of 100", x.heave(0, 0, 0), 1);
        }
        due("at the POST", off(0).heave(0, 0, 0), 1);
    }

    private static void heaveFalls() {
        sentence("else it fell in the water (counted)");
        for (int y : new int[] {5000, 5001, 5050, 30000}) {
            AlongsideLines x = off(y);
            for (int k = 1; k <= 40; k++) {
                due("no ODDS", x.heave(k % 6, 0, 0), 0);
                due("fell", x.now(12), k);
            }
            due("no line", x.now(16), 0);
        }
    }

    private static void drawsWrap() {
        sentence("each DRAW it becomes it times 1103515245 and 12345, left over by 2 to the 31");
        for (int seed : new int[] {0, 1, 2, 65535, 65536, 1073741823, 1073741824, 2147483646, 2147483647, 1103515245, 12345, 1946, 1947}) {
            AlongsideLines x = off(0);
            x.seed(seed);
            x.heave(0, 0, 0);
            int then = next(seed);
            due("SEED " + seed, x.seed(seed), then);
            x.cast(0);
            // A heave that falls draws just once, too.
            x.put(1, 30000);
            x.heave(0, 0, 0);
            due("SEED " + seed + " when it fell", x.seed(0), then);
        }
        AlongsideLines x = off(30000);
        due("0 at first", x.seed(0), 0);
        int seed = 0;
        for (int k = 0; k < 200; k++) {
            x.heave(0, 0, 0);
            seed = next(seed);
        }
        due("after 200", x.seed(0), seed);
        // ODDS draw nothing.
        x.odds(0, 0);
        due("odds", x.seed(0), 0);
    }

    private static void heaveNumbers() {
        sentence("Promise 14: A HEAVE of line l: 1, or 0: it fell. UNKNOWN, OUTSIDE, NOT, as in fast().");
        for (int l = 0; l < 6; l++) {
            AlongsideLines x = off(0);
            due("heave(" + l + ")", x.heave(l, 0, 0), 1);
            due("again", x.heave(l, 0, 0), NOT);
            due("line", x.line(l, 2), 0);
        }
        for (int l : new int[] {-1, 6, LEAST, MOST}) {
            due("heave(" + l + ")", off(0).heave(l, 0, 0), UNKNOWN);
        }
        for (int post : new int[] {-1, 2, LEAST, MOST}) {
            due("heave to " + post, off(0).heave(0, 0, post), UNKNOWN);
        }
        for (int p : new int[] {-101, 101, LEAST, MOST}) {
            due("heave from " + p, off(0).heave(0, p, 0), OUTSIDE);
        }
        // POSTS right at bow and stern.
        AlongsideLines x = Checks.at(QUAY);
        Checks.put(x, 3000, 0);
        due("from the bow", x.heave(0, 100, 0), 1);
        x.put(0, 8000);
        due("from the stern", x.heave(1, -100, 1), 1);
        due("bow", x.line(0, 0), 100);
        due("stern", x.line(1, 0), -100);
    }

    private static void oddsAtLeastNothing() {
        sentence("ODDS of a HEAVE: that, 0 at least, of a hundred.");
        int[][] odds = {{0, 100}, {1, 100}, {49, 100}, {50, 99}, {99, 99}, {100, 98}, {2500, 50}, {4899, 3}, {4900, 2}, {4949, 2}, {4950, 1}, {4999, 1},
            {5000, 0}, {5049, 0}, {5050, 0}, {5100, 0}, {30000, 0}};
        for (int[] o : odds) {
            due("off by " + o[0], off(o[0]).odds(0, 0), o[1]);
        }
    }

    private static void oddsBounds() {
        sentence("Promise 15: ODDS of a HEAVE. UNKNOWN (POST), OUTSIDE.");
        AlongsideLines x = off(0);
        due("from -100", x.odds(-100, 0), 60);
        due("from 100", x.odds(100, 0), 60);
        due("to POST 1", x.odds(100, 1), 80);
        for (int p : new int[] {-101, 101, LEAST, MOST}) {
            due("from " + p, x.odds(p, 0), OUTSIDE);
            due("from " + p + ", no POST", x.odds(p, 2), UNKNOWN);
        }
        for (int post : new int[] {-1, 2, LEAST, MOST}) {
            due("to " + post, x.odds(0, post), UNKNOWN);
        }
    }

    private static void veering() {
        sentence("Promise 16: A line's length becomes N (0 .. 9999): what it was. UNKNOWN (no such line is fast), OUTSIDE.");
        AlongsideLines x = off(30000);
        x.fast(3, 0, 0, -1);
        due("9999", x.veer(3, 9999), 30000);
        due("0", x.veer(3, 0), 9999);
        due("1", x.veer(3, 1), 0);
        due("9998", x.veer(3, 9998), 1);
        due("N", x.line(3, 2), 9998);
        for (int n : new int[] {-1, 10000, LEAST, MOST}) {
            due("veer(3, " + n + ")", x.veer(3, n), OUTSIDE);
            due("veer(2, " + n + ")", x.veer(2, n), UNKNOWN);
        }
        due("N as it was", x.line(3, 2), 9998);
        for (int l : new int[] {-1, 0, 1, 2, 4, 5, 6, LEAST, MOST}) {
            due("veer(" + l + ")", x.veer(l, 5), UNKNOWN);
        }
        // A line that was let go, and one that parted.
        x.fast(0, 0, 0, 5);
        x.cast(0);
        due("let go", x.veer(0, 5), UNKNOWN);
        due("parts", x.go(1), 1);
        due("parted", x.veer(3, 5), UNKNOWN);
        for (int l = 0; l < 6; l++) {
            x.fast(l, 0, 0, 7);
            due("veer(" + l + ")", x.veer(l, 8), 7);
        }
    }

    private static void casting() {
        sentence("Promise 17: A line is let go: its length. UNKNOWN.");
        AlongsideLines x = off(0);
        for (int l = 0; l < 6; l++) {
            x.fast(l, 0, 0, l * 3);
        }
        for (int l : new int[] {-1, 6, LEAST, MOST}) {
            due("cast(" + l + ")", x.cast(l), UNKNOWN);
        }
        for (int l = 5; l >= 0; l--) {
            due("cast(" + l + ")", x.cast(l), l * 3);
            due("cast(" + l + ") again", x.cast(l), UNKNOWN);
            due("lines", x.now(16), l);
        }
        // One that was let go does not pull any more.
        x = off(100);
        x.fast(0, 0, 0, 0);
        x.cast(0);
        x.go(1);
        due("DRIFT", x.now(4), 0);
        x.put(1, 30000);
        x.fast(1, 0, 0, -1);
        due("longer than can be told", x.cast(1), 30000);
    }

    private static void lineReadings() {
        sentence("Promise 18: what = 0 place, 1 POST, 2 N, 3 DISTANCE, 4 PULL. UNKNOWN, OUTSIDE.");
        AlongsideLines x = off(400);
        x.put(0, 4000);
        x.fast(5, 35, 0, 450);
        int[] due = {35, 0, 450, 500, 50};
        for (int what = 0; what < 5; what++) {
            due("line(5, " + what + ")", x.line(5, what), due[what]);
        }
        for (int what : new int[] {-1, 5, LEAST, MOST}) {
            due("line(5, " + what + ")", x.line(5, what), OUTSIDE);
            due("line(4, " + what + ")", x.line(4, what), UNKNOWN);
        }
        for (int l : new int[] {-1, 0, 4, 6, LEAST, MOST}) {
            due("line(" + l + ", 0)", x.line(l, 0), UNKNOWN);
        }
        // DISTANCE and PULL are of now.
        x.put(1, 0);
        due("DISTANCE now", x.line(5, 3), 300);
        due("PULL now", x.line(5, 4), 0);
        due("N stays", x.line(5, 2), 450);
    }

    private static void doesAlong() {
        sentence("0 it pulls ahead, 1 astern (the way along above, below 0)");
        for (int p : new int[] {-100, 0, 100}) {
            AlongsideLines x = Checks.at("gap 0 9999;ship 4000 10;post 5000 9;");
            Checks.put(x, 5000 - 20 * p, 0);
            due("there", x.does(p, 0), 0);
            x.put(0, 4999 - 20 * p);
            due("1 ahead", x.does(p, 0), 1);
            x.put(0, 5001 - 20 * p);
            due("1 astern", x.does(p, 0), 2);
        }
    }

    private static void doesIn() {
        sentence("2 in (the way off above 0), 3 the bow in, 4 the stern in (2, and p above, below 0)");
        int[][] does = {{-100, 16 + 4}, {-1, 16 + 4}, {0, 4}, {1, 8 + 4}, {100, 8 + 4}};
        for (int[] d : does) {
            AlongsideLines x = Checks.at("gap 0 9999;ship 4000 10;post 5000 9;");
            Checks.put(x, 5000 - 20 * d[0], 1);
            due("from " + d[0] + ", 1 off", x.does(d[0], 0), d[1]);
            x.put(1, 0);
            due("from " + d[0] + ", 0 off", x.does(d[0], 0), 0);
        }
        // The place's own way off, held to 0: 2000 * 1000 / 57296 is 34.
        AlongsideLines x = Checks.at("gap 0 9999;ship 4000 10;post 5000 9;");
        Checks.put(x, 3000, 34, 1000);
        due("bow at 0", x.does(100, 0), 0);
        x.put(1, 35);
        due("bow at 1", x.does(100, 0), 4 + 8);
        x.put(1, 33);
        due("bow at -1, held", x.does(100, 0), 0);
        Checks.put(x, 7000, 34, -1000);
        due("stern at 0", x.does(-100, 0), 0);
        x.put(1, 35);
        due("stern at 1", x.does(-100, 0), 4 + 16);
    }

    private static void doesBounds() {
        sentence("Promise 19: DOES. UNKNOWN (POST), OUTSIDE.");
        AlongsideLines x = off(10);
        due("from -100", x.does(-100, 0), 1 + 4 + 16);
        due("from 100", x.does(100, 0), 2 + 4 + 8);
        due("to POST 1", x.does(0, 1), 1 + 4);
        for (int p : new int[] {-101, 101, LEAST, MOST}) {
            due("from " + p, x.does(p, 0), OUTSIDE);
            due("from " + p + ", no POST", x.does(p, 2), UNKNOWN);
        }
        for (int post : new int[] {-1, 2, LEAST, MOST}) {
            due("to " + post, x.does(0, post), UNKNOWN);
        }
    }
}
