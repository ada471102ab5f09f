/** "What is refused changes nothing", and of several refusals the first: UNKNOWN, OUTSIDE, NOT, FULL. */
public final class RefusalsTest {
    private static final int UNKNOWN = AlongsideLines.UNKNOWN, OUTSIDE = AlongsideLines.OUTSIDE;
    private static final int NOT = AlongsideLines.NOT, FULL = AlongsideLines.FULL, NONE = AlongsideLines.NONE;
    private static final int LEAST = Integer.MIN_VALUE, MOST = Integer.MAX_VALUE;
    private static final Checks checks = new Checks();
    private static final Twins fresh = new Twins(checks, Twins::fresh);
    private static final Twins underWay = new Twins(checks, Twins::underWay);
    private static final Twins full = new Twins(checks, Twins::full);
    private static final Twins[] all = {fresh, underWay, full};

    public static void main(String[] args) {
        twinsSeeWhatChanges();
        feeding();
        tellings();
        putting();
        seconds();
        makingFast();
        heaving();
        oddsAndEffects();
        lines();
        trying();
        nights();
        letting();
        logs();
        images();
        checks.end();
    }

    /** Were these not seen, nothing that follows would prove anything. */
    private static void twinsSeeWhatChanges() {
        checks.sentence("twins see a change");
        underWay.changes("feed", x -> x.feed(1, ';'));
        underWay.changes("quay", x -> x.quay());
        underWay.changes("plan", x -> x.plan());
        underWay.changes("tide", x -> x.tide());
        for (int what = 0; what < 9; what++) {
            int w = what;
            underWay.changes("put " + w, x -> x.put(w, (int) x.now(w) == 1 ? 2 : 1));
        }
        underWay.changes("go", x -> x.go(1));
        underWay.changes("follow", x -> x.follow(1));
        underWay.changes("fast", x -> x.fast(1, 0, 0, 0));
        underWay.changes("heave", x -> x.heave(1, 0, 0));
        underWay.changes("veer", x -> x.veer(5, 1));
        underWay.changes("cast", x -> x.cast(5));
        underWay.changes("log", x -> x.log(0));
        underWay.changes("clear", x -> x.clear());
        underWay.changes("seed", x -> x.seed(0));
        underWay.changes("keep 0", x -> x.keep(0));
        underWay.changes("keep 1", x -> x.keep(1));
        underWay.changes("goBack", x -> x.goBack(0));
    }

    private static void feeding() {
        checks.sentence("Promise 2: feed .. OUTSIDE, FULL (300)");
        for (Twins twins : all) {
            for (int n : new int[] {0, 9, -1, LEAST, MOST}) {
                twins.changesNothing("feed(" + n + ")", OUTSIDE, x -> x.feed(n, 0x3b3b3b3b3b3b3b3bL));
            }
        }
        for (int n = 1; n <= 8; n++) {
            int bytes = n;
            full.changesNothing("feed(" + n + ") when full", FULL, x -> x.feed(bytes, 0x3b3b3b3b3b3b3b3bL));
        }
        // 294 bytes: six more go in, seven or eight do not, and not in part.
        Twins nearlyFull = new Twins(checks, x -> Checks.feed(x, " ".repeat(286) + "wind 50;"));
        nearlyFull.changesNothing("feed(7) at 294", FULL, x -> x.feed(7, 0x3b3b3b3b3b3b3bL));
        nearlyFull.changesNothing("feed(8) at 294", FULL, x -> x.feed(8, 0x3b3b3b3b3b3b3b3bL));
        nearlyFull.changes("feed(6) at 294", x -> x.feed(6, 0x3b3b3b3b3b3bL));
    }

    private static void tellings() {
        checks.sentence("Promise 7: told .. OUTSIDE; Promise 8: post .. UNKNOWN, OUTSIDE");
        for (Twins twins : all) {
            for (int what : new int[] {-1, 17, LEAST, MOST}) {
                twins.changesNothing("told(" + what + ")", OUTSIDE, x -> x.told(what));
                twins.changesNothing("now(" + what + ")", OUTSIDE, x -> x.now(what));
            }
        }
        for (int what : new int[] {-1, 0, 1, 2, LEAST, MOST}) {
            fresh.changesNothing("post(0, " + what + ") of none", UNKNOWN, x -> x.post(0, what));
            for (int k : new int[] {-1, 3, 12, LEAST, MOST}) {
                underWay.changesNothing("post(" + k + ", " + what + ")", UNKNOWN, x -> x.post(k, what));
            }
        }
        for (int what : new int[] {-1, 2, LEAST, MOST}) {
            underWay.changesNothing("post(0, " + what + ")", OUTSIDE, x -> x.post(0, what));
            underWay.changesNothing("post(2, " + what + ")", OUTSIDE, x -> x.post(2, what));
        }
    }

    private static void putting() {
        checks.sentence("Promise 9: put .. OUTSIDE");
        int[] least = {0, 0, -45000, -20000, -20000, -5000, -3, -3, 0};
        int[] most = {9999, 30000, 45000, 20000, 20000, 5000, 3, 3, 99};
        for (int what = 0; what < 9; what++) {
            int w = what;
            for (int v : new int[] {least[w] - 1, most[w] + 1, LEAST, MOST}) {
                for (Twins twins : all) {
                    twins.changesNothing("put(" + w + ", " + v + ")", OUTSIDE, x -> x.put(w, v));
                }
            }
        }
        for (int what : new int[] {-1, 9, LEAST, MOST}) {
            for (int v : new int[] {0, 1, -1, LEAST, MOST}) {
                underWay.changesNothing("put(" + what + ", " + v + ")", OUTSIDE, x -> x.put(what, v));
            }
        }
    }

    private static void seconds() {
        checks.sentence("Promises 11, 12: n seconds (1 .. 600) .. OUTSIDE");
        for (Twins twins : all) {
            for (int n : new int[] {0, -1, 601, LEAST, MOST}) {
                twins.changesNothing("go(" + n + ")", OUTSIDE, x -> x.go(n));
                twins.changesNothing("follow(" + n + ")", OUTSIDE, x -> x.follow(n));
            }
        }
    }

    /** What is due of a call with arguments of which some may be wrong and a line that may be fast. */
    private static int first(boolean unknown, boolean outside, boolean not) {
        return unknown ? UNKNOWN : outside ? OUTSIDE : not ? NOT : NONE;
    }

    private static void makingFast() {
        checks.sentence("Promise 13: fast .. UNKNOWN, OUTSIDE (p -100 .. 100), NOT: it is fast already");
        for (int l : new int[] {-1, 0, 1, 6}) {
            for (int post : new int[] {-1, 0, 2, 3}) {
                for (int p : new int[] {-101, -100, 100, 101}) {
                    for (int n : new int[] {-2, -1, 9999, 10000}) {
                        boolean unknown = l < 0 || l > 5 || post < 0 || post > 2;
                        int want = first(unknown, p < -100 || p > 100 || n < -1 || n > 9999, l == 0);
                        if (want != NONE) {
                            underWay.changesNothing("fast(" + l + ", " + p + ", " + post + ", " + n + ")", want, x -> x.fast(l, p, post, n));
                        }
                    }
                }
            }
        }
        for (int l = 0; l < 6; l++) {
            int line = l;
            full.changesNothing("fast, six are", NOT, x -> x.fast(line, 0, 0, 5));
            fresh.changesNothing("fast, no POST", UNKNOWN, x -> x.fast(line, 0, 0, 5));
        }
        for (int v : new int[] {LEAST, MOST}) {
            underWay.changesNothing("fast(" + v + ", ..)", UNKNOWN, x -> x.fast(v, v, 0, v));
            underWay.changesNothing("fast(.., " + v + ", ..)", UNKNOWN, x -> x.fast(1, 0, v, 0));
            underWay.changesNothing("fast from " + v, OUTSIDE, x -> x.fast(1, v, 0, 0));
            underWay.changesNothing("fast by " + v, OUTSIDE, x -> x.fast(1, 0, 0, v));
        }
    }

    private static void heaving() {
        checks.sentence("Promise 14: heave .. UNKNOWN, OUTSIDE, NOT, as in fast()");
        for (int l : new int[] {LEAST, -1, 0, 1, 6, MOST}) {
            for (int post : new int[] {LEAST, -1, 0, 2, 3, MOST}) {
                for (int p : new int[] {LEAST, -101, -100, 100, 101, MOST}) {
                    boolean unknown = l < 0 || l > 5 || post < 0 || post > 2;
                    int want = first(unknown, p < -100 || p > 100, l == 0);
                    if (want != NONE) {
                        underWay.changesNothing("heave(" + l + ", " + p + ", " + post + ")", want, x -> x.heave(l, p, post));
                    }
                }
            }
        }
        for (int l = 0; l < 6; l++) {
            int line = l;
            full.changesNothing("heave, six are fast", NOT, x -> x.heave(line, 0, 0));
        }
    }

    private static void oddsAndEffects() {
        checks.sentence("Promises 15, 19: odds, does .. UNKNOWN (POST), OUTSIDE");
        for (int post : new int[] {LEAST, -1, 0, 2, 3, MOST}) {
            for (int p : new int[] {LEAST, -101, -100, 100, 101, MOST}) {
                int want = first(post < 0 || post > 2, p < -100 || p > 100, false);
                if (want != NONE) {
                    underWay.changesNothing("odds(" + p + ", " + post + ")", want, x -> x.odds(p, post));
                    underWay.changesNothing("does(" + p + ", " + post + ")", want, x -> x.does(p, post));
                }
            }
        }
        fresh.changesNothing("odds, no POST", UNKNOWN, x -> x.odds(0, 0));
        fresh.changesNothing("does, no POST", UNKNOWN, x -> x.does(0, 0));
    }

    private static void lines() {
        checks.sentence("Promises 16, 17, 18: veer, cast, line .. UNKNOWN, OUTSIDE");
        for (int l : new int[] {LEAST, -1, 1, 3, 4, 6, MOST}) {
            underWay.changesNothing("cast(" + l + ")", UNKNOWN, x -> x.cast(l));
            for (int v : new int[] {LEAST, -1, 0, 9999, 10000, MOST}) {
                underWay.changesNothing("veer(" + l + ", " + v + ")", UNKNOWN, x -> x.veer(l, v));
                underWay.changesNothing("line(" + l + ", " + v + ")", UNKNOWN, x -> x.line(l, v));
            }
        }
        for (int l : new int[] {0, 2, 5}) {
            for (int n : new int[] {LEAST, -1, 10000, MOST}) {
                underWay.changesNothing("veer(" + l + ", " + n + ")", OUTSIDE, x -> x.veer(l, n));
            }
            for (int what : new int[] {LEAST, -1, 5, MOST}) {
                underWay.changesNothing("line(" + l + ", " + what + ")", OUTSIDE, x -> x.line(l, what));
            }
        }
        for (int l = 0; l < 6; l++) {
            int line = l;
            fresh.changesNothing("cast(" + l + ") of none", UNKNOWN, x -> x.cast(line));
            fresh.changesNothing("veer(" + l + ", 5) of none", UNKNOWN, x -> x.veer(line, 5));
            fresh.changesNothing("line(" + l + ", 0) of none", UNKNOWN, x -> x.line(line, 0));
        }
    }

    private static void trying() {
        checks.sentence("Promises 20, 23, 24, 25: tried, wind, gap, tug .. OUTSIDE");
        for (Twins twins : all) {
            for (int what : new int[] {LEAST, -1, 6, 7, 8, 12, 13, 14, 16, 18, MOST}) {
                twins.changesNothing("tried(1, " + what + ")", OUTSIDE, x -> x.tried(1, what));
                twins.changesNothing("tried(600, " + what + ")", OUTSIDE, x -> x.tried(600, what));
                twins.changesNothing("tried(601, " + what + ")", OUTSIDE, x -> x.tried(601, what));
            }
            for (int n : new int[] {LEAST, -1, 0, 601, MOST}) {
                twins.changesNothing("tried(" + n + ", 0)", OUTSIDE, x -> x.tried(n, 0));
                twins.changesNothing("tried(" + n + ", 17)", OUTSIDE, x -> x.tried(n, 17));
            }
            for (int n : new int[] {LEAST, -1, 0, 301, MOST}) {
                twins.changesNothing("wind(" + n + ")", OUTSIDE, x -> x.wind(n));
                twins.changesNothing("gap(" + n + ")", OUTSIDE, x -> x.gap(n));
                twins.changesNothing("tug(" + n + ")", OUTSIDE, x -> x.tug(n));
            }
        }
    }

    private static void nights() {
        checks.sentence("Promises 26, 27, 28: needs .. UNKNOWN (line, hour), OUTSIDE; tended .. UNKNOWN (line), OUTSIDE (h); wakes .. OUTSIDE");
        for (int l : new int[] {LEAST, -1, 0, 1, 6, MOST}) {
            for (int h : new int[] {LEAST, -1, 0, 999, 1000, MOST}) {
                for (int hour : new int[] {LEAST, -1, 0, 2, 3, MOST}) {
                    int want = first(l != 0 || hour < 0 || hour > 2, h < 0 || h > 999, false);
                    if (want != NONE) {
                        underWay.changesNothing("needs(" + l + ", " + hour + ", " + h + ")", want, x -> x.needs(l, hour, h));
                    }
                }
                int want = first(l != 0, h < 0 || h > 999, false);
                if (want != NONE) {
                    for (int what : new int[] {LEAST, -2, -1, 0, 1, MOST}) {
                        underWay.changesNothing("tended(" + l + ", " + h + ", " + what + ")", want, x -> x.tended(l, h, what));
                    }
                }
            }
        }
        for (Twins twins : all) {
            for (int h : new int[] {LEAST, -1, 1000, MOST}) {
                twins.changesNothing("wakes(" + h + ")", OUTSIDE, x -> x.wakes(h));
            }
        }
        fresh.changesNothing("needs of no line, no hour", UNKNOWN, x -> x.needs(0, 0, 0));
        fresh.changesNothing("tended of no line", UNKNOWN, x -> x.tended(0, 0, -1));
    }

    private static void letting() {
        checks.sentence("Promise 29: order .. NOT: no lines");
        for (int j : new int[] {LEAST, -2, -1, 0, 1, 5, 6, MOST}) {
            fresh.changesNothing("order(" + j + ") of none", NOT, x -> x.order(j));
        }
        for (int j : new int[] {LEAST, -2, 3, MOST}) {
            underWay.changesNothing("order(" + j + ") of three", NONE, x -> x.order(j));
        }
        for (int j : new int[] {LEAST, -2, 6, MOST}) {
            full.changesNothing("order(" + j + ") of six", NONE, x -> x.order(j));
        }
    }

    private static void logs() {
        checks.sentence("Promises 30, 32, 33: log .. OUTSIDE, FULL (60); judge, seed .. OUTSIDE");
        for (Twins twins : all) {
            for (int x0 : new int[] {LEAST, -100000, 100000, MOST}) {
                twins.changesNothing("log(" + x0 + ")", OUTSIDE, x -> x.log(x0));
            }
            for (int e : new int[] {LEAST, -1, 10000, MOST}) {
                twins.changesNothing("judge(" + e + ")", OUTSIDE, x -> x.judge(e));
            }
            for (int v : new int[] {LEAST, -1}) {
                twins.changesNothing("seed(" + v + ")", OUTSIDE, x -> x.seed(v));
            }
        }
        for (int x0 : new int[] {-99999, 0, 99999}) {
            full.changesNothing("log(" + x0 + ") when full", FULL, x -> x.log(x0));
        }
    }

    private static void images() {
        checks.sentence("Promises 34, 35: keep .. UNKNOWN; goBack .. UNKNOWN, NOT: it was not kept");
        for (int i : new int[] {LEAST, -1, 2, MOST}) {
            for (Twins twins : all) {
                twins.changesNothing("keep(" + i + ")", UNKNOWN, x -> x.keep(i));
                twins.changesNothing("goBack(" + i + ")", UNKNOWN, x -> x.goBack(i));
            }
        }
        fresh.changesNothing("goBack(0) of none", NOT, x -> x.goBack(0));
        fresh.changesNothing("goBack(1) of none", NOT, x -> x.goBack(1));
        underWay.changesNothing("goBack(1) of image 0 alone", NOT, x -> x.goBack(1));
    }
}
