/** Counts answers that are not as due; every test ends with its end(). */
final class Checks {
    private int made;
    private int wrong;
    private String sentence = "";

    /** The document's sentence that the answers from here on are held against. */
    void sentence(String words) {
        sentence = words;
    }

    void due(String call, long got, long want) {
        made++;
        if (got != want) {
            wrong++;
            System.out.println((sentence.isEmpty() ? "" : "[" + sentence + "] ") + call + " answered " + got + ", due is " + want);
        }
    }

    void end() {
        System.out.println(wrong == 0 ? made + " answers are as due" : wrong + " of " + made + " answers are not as due");
        if (wrong != 0) {
            System.exit(1);
        }
    }

    static void feed(AlongsideLines x, String text) {
        for (int from = 0; from < text.length(); from += 8) {
            int n = Math.min(8, text.length() - from);
            long bytes = 0;
            for (int i = 0; i < n; i++) {
                bytes = bytes << 8 | text.charAt(from + i) & 255;
            }
            x.feed(n, bytes);
        }
    }

    static int quay(AlongsideLines x, String text) {
        feed(x, text);
        return x.quay();
    }

    static int plan(AlongsideLines x, String text) {
        feed(x, text);
        return x.plan();
    }

    static int tide(AlongsideLines x, String text) {
        feed(x, text);
        return x.tide();
    }

    static AlongsideLines at(String quay) {
        AlongsideLines x = new AlongsideLines();
        quay(x, quay);
        return x;
    }

    /** Puts her: X, Y, ANGLE, PACE, DRIFT, TURN, E, R, the tug, as many as are given. */
    static void put(AlongsideLines x, int... values) {
        for (int what = 0; what < values.length; what++) {
            x.put(what, values[what]);
        }
    }
}
