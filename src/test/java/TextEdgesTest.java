/** Each sentence of the document on texts that names an edge: 1 THE QUAY, THE PLAN, THE TIDE, NUMBERS, FAULTS; promises 1 to 8. */
public final class TextEdgesTest {
    private static final int UNKNOWN = AlongsideLines.UNKNOWN, OUTSIDE = AlongsideLines.OUTSIDE, FULL = AlongsideLines.FULL;
    private static final int QUAY = 0, PLAN = 1, TIDE = 2, NONE = -1;
    private static final int LEAST = Integer.MIN_VALUE, MOST = Integer.MAX_VALUE;
    private static final String[] ONCE = {"gap 3 4;", "ship 501 2;", "screw 3 4;", "wheel 5;", "slow 6 7 8;", "wind 9;", "give 11;", "fender 12;"};
    private static final Checks checks = new Checks();

    public static void main(String[] args) {
        constants();
        aTextOf300();
        gaps();
        posts();
        postsAtOnePlace();
        ships();
        screws();
        wheels();
        slows();
        winds();
        gives();
        fenders();
        untoldIsAsUntold();
        clausesOnce();
        plans();
        engineLessThree();
        tides();
        figures();
        words();
        blanks();
        sideBySide();
        emptyTexts();
        theEnd();
        theFirstFault();
        theLeastFault();
        fault1();
        fault2();
        fault3();
        fault4();
        aNewObject();
        feeding();
        feedingFull();
        quays();
        quaysWithFaults();
        planAnswers();
        tideAnswers();
        faultPlaces();
        tellings();
        tellingPosts();
        checks.end();
    }

    private static void sentence(String words) {
        checks.sentence(words);
    }

    private static void due(String call, long got, long want) {
        checks.due(call, got, want);
    }

    private static int read(AlongsideLines x, int kind, String text) {
        Checks.feed(x, text);
        return kind == QUAY ? x.quay() : kind == PLAN ? x.plan() : x.tide();
    }

    private static String shown(String text) {
        return "'" + (text.length() > 60 ? text.substring(0, 25) + ".." + text.substring(text.length() - 25) : text) + "'";
    }

    private static AlongsideLines good(int kind, String text, int count) {
        AlongsideLines x = new AlongsideLines();
        due(shown(text), read(x, kind, text), count);
        due(shown(text) + " fault()", x.fault(), NONE);
        return x;
    }

    private static void bad(int kind, String text, int number, int place) {
        AlongsideLines x = new AlongsideLines();
        due(shown(text), read(x, kind, text), -10 - number);
        due(shown(text) + " fault()", x.fault(), place);
    }

    /** A NUMBER of THE QUAY is told at both its bounds, and just beyond each has FAULT 2. */
    private static void bounds(String before, String behind, int told, int least, int most) {
        for (int v : new int[] {least, least + 1, most - 1, most}) {
            due(before + v + behind, good(QUAY, before + v + behind, 0).told(told), v);
        }
        bad(QUAY, before + (most + 1) + behind, 2, before.length());
        bad(QUAY, before + "9999" + behind, 2, before.length());
        if (least > 0) {
            bad(QUAY, before + (least - 1) + behind, 2, before.length());
            bad(QUAY, before + "0" + behind, 2, before.length());
        }
        // There is no NUMBER below 0: the sign itself cannot stand there.
        bad(QUAY, before + "-1" + behind, 1, before.length());
    }

    // -- terms

    private static void constants() {
        sentence("They are far below all that is counted: -1000000001 and on.");
        due("NONE", AlongsideLines.NONE, -1);
        due("UNKNOWN", AlongsideLines.UNKNOWN, -1000000001);
        due("OUTSIDE", AlongsideLines.OUTSIDE, -1000000002);
        due("NOT", AlongsideLines.NOT, -1000000003);
        due("FULL", AlongsideLines.FULL, -1000000004);
    }

    private static void aTextOf300() {
        sentence("is told in a text (300 bytes at most)");
        due("the 300th byte ends a clause", good(QUAY, " ".repeat(292) + "wind 77;", 0).told(10), 77);
        due("a clause at the beginning", good(QUAY, "wind 77;" + " ".repeat(292), 0).told(10), 77);
        bad(QUAY, " ".repeat(293) + "wind 77", 1, 300);
        bad(QUAY, " ".repeat(299) + ";", 1, 299);
        due("plan", good(PLAN, " ".repeat(291) + "at 5 6 0;", 1).told(14), 1);
        bad(PLAN, " ".repeat(292) + "at 5 6 0", 1, 300);
        due("tide", good(TIDE, " ".repeat(293) + "hour 5;", 1).told(15), 1);
        bad(TIDE, " ".repeat(294) + "hour 5", 1, 300);
        // The longest of all words and NUMBERS: letters and figures to the end.
        bad(QUAY, "w".repeat(300), 1, 0);
        bad(QUAY, "wind" + "0".repeat(296), 2, 4);
    }

    private static void gaps() {
        sentence("'gap' A B ';' (0 .. 9999 both, B above A; 0 9000 untold; once)");
        AlongsideLines x = good(QUAY, "gap 0 9999;", 0);
        due("A 0", x.told(0), 0);
        due("B 9999", x.told(1), 9999);
        x = good(QUAY, "gap 9998 9999;", 0);
        due("A 9998", x.told(0), 9998);
        bad(QUAY, "gap 9999 9999;", 2, 9);
        bad(QUAY, "gap 10000 9999;", 2, 4);
        bad(QUAY, "gap 0 10000;", 2, 6);
        bad(QUAY, "gap -1 5;", 1, 4);
        due("B one above A", good(QUAY, "gap 41 42;", 0).told(1), 42);
        bad(QUAY, "gap 42 42;", 2, 7);
        bad(QUAY, "gap 43 42;", 2, 7);
        bad(QUAY, "gap 0 0;", 2, 6);
        due("B one above 0", good(QUAY, "gap 0 1;", 0).told(1), 1);
        due("A untold", good(QUAY, "", 0).told(0), 0);
        due("B untold", good(QUAY, "", 0).told(1), 9000);
    }

    private static String manyPosts(int n) {
        StringBuilder text = new StringBuilder();
        for (int k = 0; k < n; k++) {
            text.append("post").append(k * 11).append(" ").append(k + 1).append(";");
        }
        return text.toString();
    }

    private static void posts() {
        sentence("'post' X S ';' (12 POSTS at most, 0 .. 9999, no two at one X; strength 1 .. 999)");
        AlongsideLines x = good(QUAY, manyPosts(12), 12);
        for (int k = 0; k < 12; k++) {
            due("X of POST " + k, x.post(k, 0), k * 11);
            due("strength of POST " + k, x.post(k, 1), k + 1);
        }
        good(QUAY, manyPosts(11), 11);
        bad(QUAY, manyPosts(13), 3, manyPosts(12).length());
        due("X 0", good(QUAY, "post 0 5;", 1).post(0, 0), 0);
        due("X 9999", good(QUAY, "post 9999 5;", 1).post(0, 0), 9999);
        bad(QUAY, "post 10000 5;", 2, 5);
        bad(QUAY, "post -1 5;", 1, 5);
        due("strength 1", good(QUAY, "post 7 1;", 1).post(0, 1), 1);
        due("strength 999", good(QUAY, "post 7 999;", 1).post(0, 1), 999);
        bad(QUAY, "post 7 0;", 2, 7);
        bad(QUAY, "post 7 1000;", 2, 7);
    }

    private static void postsAtOnePlace() {
        sentence("4 a POST at an X that has one .. (at it)");
        bad(QUAY, "post 7 1;post 7 1;", 4, 14);
        good(QUAY, "post 7 1;post 6 1;post 8 1;", 3);
        bad(QUAY, "post 0 1;post 0 1;", 4, 14);
        bad(QUAY, "post 9999 1;post 9999 1;", 4, 17);
        bad(QUAY, "post 7 1;post 8 1;post 9 1;post 7 1;", 4, 32);
        bad(QUAY, "post 7 1;post 8 1;post 9 1;post 9 1;", 4, 32);
        // The twelfth may still be at one of the eleven's, the thirteenth is one too many before that.
        bad(QUAY, manyPosts(11) + "post 0 1;", 4, manyPosts(11).length() + 5);
        bad(QUAY, manyPosts(12) + "post 0 1;", 3, manyPosts(12).length());
    }

    private static void ships() {
        sentence("'ship' L M ';' (length 500 .. 9000, weight 1 .. 99; 5000 30 untold; once)");
        bounds("ship ", " 7;", 2, 500, 9000);
        bounds("ship 600 ", ";", 3, 1, 99);
        due("L untold", new AlongsideLines().told(2), 5000);
        due("M untold", new AlongsideLines().told(3), 30);
    }

    private static void screws() {
        sentence("'screw' P K ';' (push 0 .. 50, walk 0 .. 99; 8 10; once)");
        bounds("screw ", " 7;", 4, 0, 50);
        bounds("screw 7 ", ";", 5, 0, 99);
        due("P untold", new AlongsideLines().told(4), 8);
        due("walk untold", new AlongsideLines().told(5), 10);
    }

    private static void wheels() {
        sentence("'wheel' R ';' (0 .. 99; 20; once)");
        bounds("wheel ", ";", 6, 0, 99);
        due("wheel untold", new AlongsideLines().told(6), 20);
    }

    private static void slows() {
        sentence("'slow' D S T ';' (of a hundred, each 0 .. 50: ahead, sideways, turning; 2 10 10; once)");
        bounds("slow ", " 7 9;", 7, 0, 50);
        bounds("slow 7 ", " 9;", 8, 0, 50);
        bounds("slow 7 9 ", ";", 9, 0, 50);
        due("D untold", new AlongsideLines().told(7), 2);
        due("S untold", new AlongsideLines().told(8), 10);
        due("T untold", new AlongsideLines().told(9), 10);
    }

    private static void winds() {
        sentence("'wind' F ';' (0 .. 99; 2; once)");
        bounds("wind ", ";", 10, 0, 99);
        due("F untold", new AlongsideLines().told(10), 2);
    }

    private static void gives() {
        sentence("'give' G ';' (1 .. 99; 10; once)");
        bounds("give ", ";", 11, 1, 99);
        due("G untold", new AlongsideLines().told(11), 10);
    }

    private static void fenders() {
        sentence("'fender' N ';' (0 .. 999: pace that harms nobody; 10; once)");
        bounds("fender ", ";", 12, 0, 999);
        due("fender untold", new AlongsideLines().told(12), 10);
    }

    private static void untoldIsAsUntold() {
        sentence("Promise 3: THE TEXT becomes THE QUAY (what it does not tell is as untold)");
        int[] untold = {0, 9000, 5000, 30, 8, 10, 20, 2, 10, 10, 2, 10, 10, 0, 0, 0, 0};
        AlongsideLines x = new AlongsideLines();
        due("all told", Checks.quay(x, String.join("", ONCE) + "post 5 5;"), 1);
        int[] told = {3, 4, 501, 2, 3, 4, 5, 6, 7, 8, 9, 11, 12, 1, 0, 0, 0};
        for (int what = 0; what < told.length; what++) {
            due("told(" + what + ")", x.told(what), told[what]);
        }
        due("nothing told", x.quay(), 0);
        for (int what = 0; what < untold.length; what++) {
            due("untold(" + what + ")", x.told(what), untold[what]);
        }
        due("post(0, 0)", x.post(0, 0), UNKNOWN);
    }

    private static void clausesOnce() {
        sentence("3 a clause that was told already .. (at its first letter)");
        for (String clause : ONCE) {
            good(QUAY, clause, 0);
            bad(QUAY, clause + clause, 3, clause.length());
            bad(QUAY, clause + "post 1 1; " + clause, 3, clause.length() + 10);
            // The word alone does: what would follow does not matter.
            String word = clause.substring(0, clause.indexOf(' '));
            bad(QUAY, clause + word, 3, clause.length());
        }
        String all = String.join("", ONCE);
        good(QUAY, all, 0);
        for (String clause : ONCE) {
            bad(QUAY, all + clause, 3, all.length());
        }
        // What was told in an earlier text is told already in that one alone, be it with or without a fault.
        AlongsideLines x = new AlongsideLines();
        due("first text", Checks.quay(x, all + manyPosts(12)), 12);
        due("second text", Checks.quay(x, all + "x"), -11);
        due("third text", Checks.quay(x, all + manyPosts(12)), 12);
        due("plan", Checks.plan(x, manySeconds(20)), 20);
        due("plan again", Checks.plan(x, manySeconds(20)), 20);
        due("tide", Checks.tide(x, "hour 1;".repeat(24)), 24);
        due("tide again", Checks.tide(x, "hour 1;".repeat(24)), 24);
    }

    private static String manySeconds(int n) {
        StringBuilder text = new StringBuilder();
        for (int k = 0; k < n; k++) {
            text.append("at").append(k).append(" 4 3;");
        }
        return text.toString();
    }

    private static void plans() {
        sentence("clauses 'at' T E R ';' (20 at most; second T 0 .. 999, each above the one ahead; E, R 0 .. 6");
        good(PLAN, manySeconds(19), 19);
        good(PLAN, manySeconds(20), 20);
        bad(PLAN, manySeconds(21), 3, manySeconds(20).length());
        good(PLAN, "at 0 3 3;", 1);
        good(PLAN, "at 999 3 3;", 1);
        bad(PLAN, "at 1000 3 3;", 2, 3);
        bad(PLAN, "at -1 3 3;", 1, 3);
        good(PLAN, "at 5 0 0;", 1);
        good(PLAN, "at 5 6 6;", 1);
        bad(PLAN, "at 5 7 3;", 2, 5);
        bad(PLAN, "at 5 3 7;", 2, 7);
        bad(PLAN, "at 5 -1 3;", 1, 5);
        bad(PLAN, "at 5 3 -1;", 1, 7);
        good(PLAN, "at 5 3 3;at 6 3 3;", 2);
        bad(PLAN, "at 5 3 3;at 5 3 3;", 4, 12);
        bad(PLAN, "at 5 3 3;at 4 3 3;", 4, 12);
        bad(PLAN, "at 0 3 3;at 0 3 3;", 4, 12);
        bad(PLAN, "at 999 3 3;at 999 3 3;", 4, 14);
        // The one ahead is the latest, not the first.
        bad(PLAN, "at 5 3 3;at 9 3 3;at 7 3 3;", 4, 21);
        good(PLAN, "at 998 3 3;at 999 3 3;", 2);
    }

    private static void engineLessThree() {
        sentence("engine E less 3, wheel R less 3");
        for (int e = 0; e <= 6; e++) {
            AlongsideLines x = good(PLAN, "at 0 " + e + " " + (6 - e) + ";", 1);
            x.follow(1);
            due("E of " + e, x.now(6), e - 3);
            due("R of " + (6 - e), x.now(7), 3 - e);
        }
    }

    private static void tides() {
        sentence("clauses 'hour' H ';' (24 at most: height 0 .. 999)");
        good(TIDE, "hour 1;".repeat(23), 23);
        good(TIDE, "hour 1;".repeat(24), 24);
        bad(TIDE, "hour 1;".repeat(25), 3, 168);
        good(TIDE, "hour 0;", 1);
        good(TIDE, "hour 999;", 1);
        bad(TIDE, "hour 1000;", 2, 5);
        bad(TIDE, "hour -1;", 1, 5);
        // Each height stands at its hour: straight down, NEEDS of deck 300 is the height.
        StringBuilder text = new StringBuilder("hour 999;");
        for (int k = 1; k < 24; k++) {
            text.append("hour ").append(k * 7).append(';');
        }
        AlongsideLines x = good(TIDE, text.toString(), 24);
        Checks.quay(x, "post 4500 5;");
        x.fast(0, 0, 0, 0);
        due("height 0", x.needs(0, 0, 300), 999);
        for (int k = 1; k < 24; k++) {
            due("height " + k, x.needs(0, k, 300), k * 7);
        }
        due("no hour 24", x.needs(0, 24, 300), UNKNOWN);
    }

    // -- numbers, words, blanks

    private static void figures() {
        sentence("NUMBERS have one to four figures");
        bad(QUAY, "wind ;", 1, 5);
        due("one", good(QUAY, "fender 7;", 0).told(12), 7);
        due("two", good(QUAY, "fender 07;", 0).told(12), 7);
        due("three", good(QUAY, "fender 007;", 0).told(12), 7);
        due("four", good(QUAY, "fender 0007;", 0).told(12), 7);
        bad(QUAY, "fender 00007;", 2, 7);
        bad(QUAY, "fender 00000;", 2, 7);
        due("0000", good(QUAY, "fender 0000;", 0).told(12), 0);
        due("9876", good(QUAY, "post 9876 1;", 1).post(0, 0), 9876);
        due("1023", good(QUAY, "post 1023 1;", 1).post(0, 0), 1023);
        due("4567", good(QUAY, "post 4567 1;", 1).post(0, 0), 4567);
        // What an int or a long would wrap to would be within the bounds.
        bad(QUAY, "wind 4294967297;", 2, 5);
        bad(QUAY, "wind 18446744073709551617;", 2, 5);
        bad(QUAY, "wind " + "0".repeat(200) + "5;", 2, 5);
    }

    private static void words() {
        sentence("words are letters a .. z side by side");
        // Neighbours of a .. z and of 0 .. 9 are neither.
        bad(QUAY, "wind`5;", 1, 4);
        bad(QUAY, "wind{5;", 1, 4);
        bad(QUAY, "wind5/;", 1, 5);
        bad(QUAY, "wind5:;", 1, 5);
        bad(QUAY, "wind/5;", 1, 4);
        bad(QUAY, "wind:5;", 1, 4);
        bad(QUAY, "`wind 5;", 1, 0);
        bad(QUAY, "{wind 5;", 1, 0);
        bad(QUAY, "WIND 5;", 1, 0);
        bad(QUAY, "wiNd 5;", 1, 0);
        // A word is as long as letters go: with one more, a or z, it is another.
        bad(QUAY, "winda 5;", 1, 0);
        bad(QUAY, "windz 5;", 1, 0);
        bad(QUAY, "awind 5;", 1, 0);
        bad(QUAY, "zwind 5;", 1, 0);
        bad(QUAY, "win 5;", 1, 0);
        bad(QUAY, "w", 1, 0);
        bad(QUAY, "posts 5 5;", 1, 0);
        bad(QUAY, "pos 5 5;", 1, 0);
        bad(PLAN, "a 1 1 1;", 1, 0);
        bad(PLAN, "ata 1 1 1;", 1, 0);
        bad(TIDE, "hou 1;", 1, 0);
        bad(TIDE, "hours 1;", 1, 0);
        // ';' is 59, between ':' and '<'.
        bad(QUAY, "wind 5<", 1, 6);
        // Every letter counts: with any one of them another the word is none.
        for (String clause : ONCE) {
            otherLetters(QUAY, clause);
        }
        otherLetters(QUAY, "post 5 5;");
        otherLetters(PLAN, "at 5 5 5;");
        otherLetters(TIDE, "hour 5;");
    }

    private static void otherLetters(int kind, String clause) {
        for (int i = 0; i < clause.indexOf(' '); i++) {
            bad(kind, clause.substring(0, i) + "q" + clause.substring(i + 1), 1, 0);
            bad(kind, clause.substring(0, i) + clause.substring(i + 1), 1, 0);
        }
    }

    private static void blanks() {
        sentence("blanks (32) may stand anywhere but within words and NUMBERS");
        due("everywhere", good(QUAY, "  gap  1   2  ;  post   3  4 ; ", 1).told(1), 2);
        due("nowhere but between NUMBERS", good(QUAY, "gap1 2;post3 4;wind5;", 1).told(10), 5);
        due("before ';' alone", good(QUAY, "wind5 ;", 0).told(10), 5);
        bad(QUAY, "wi nd 5;", 1, 0);
        bad(QUAY, "win d5;", 1, 0);
        bad(QUAY, "wind 5 5;", 1, 7);
        bad(QUAY, "gap 1 2 3;", 1, 8);
        for (int b : new int[] {0, 1, 9, 10, 11, 12, 13, 31, 33, 95, 127, 128, 160, 255}) {
            bad(QUAY, "wind" + (char) b + "5;", 1, 4);
            bad(QUAY, "wind 5;" + (char) b, 1, 7);
            bad(QUAY, (char) b + "wind 5;", 1, 0);
            bad(QUAY, "wind 5" + (char) b + ";", 1, 6);
        }
        good(PLAN, " at  1   2 3 ; ", 1);
        good(PLAN, "at1 2 3;", 1);
        good(TIDE, " hour   1 ; ", 1);
        good(TIDE, "hour1;", 1);
    }

    private static void sideBySide() {
        sentence("two words, two NUMBERS side by side need one");
        // Without a blank they are one: one NUMBER, and another is missing; one word that there is not.
        bad(QUAY, "gap 12;", 1, 6);
        good(QUAY, "gap 1 2;", 0);
        bad(QUAY, "windgap 1 2;", 1, 0);
        bad(QUAY, "wind gap 1 2;", 1, 5);
        bad(PLAN, "at 1 02;", 1, 7);
        bad(PLAN, "at 1 22;", 2, 5);
        bad(PLAN, "at 123;", 1, 6);
        // A word and a NUMBER need none.
        good(QUAY, "gap1 2;", 0);
        bad(QUAY, "gap 1 2wind", 1, 7);
    }

    private static void emptyTexts() {
        sentence("An empty text (or one of blanks alone) has no FAULT.");
        for (int kind : new int[] {QUAY, PLAN, TIDE}) {
            good(kind, "", 0);
            good(kind, " ", 0);
            good(kind, " ".repeat(299), 0);
            good(kind, " ".repeat(300), 0);
        }
    }

    // -- faults

    private static void theEnd() {
        sentence("FAULTS, at the first byte that has one (the end at the text's length)");
        String whole = "slow 1 22 3 ;";
        for (int length = 1; length < whole.length(); length++) {
            boolean inWord = length < 4;
            bad(QUAY, whole.substring(0, length), 1, inWord ? 0 : length);
        }
        good(QUAY, whole, 0);
        bad(QUAY, "wind   ", 1, 7);
        bad(QUAY, "wind 5   ", 1, 9);
        bad(PLAN, "at 1 1 1;at", 1, 11);
        bad(PLAN, "at 1 1 1;at 2", 1, 13);
        bad(TIDE, "hour", 1, 4);
        bad(TIDE, "hour 9", 1, 6);
    }

    private static void theFirstFault() {
        sentence("FAULTS, at the first byte that has one");
        bad(QUAY, "wind 100;;", 2, 5);
        bad(QUAY, "wind 5;wind 100;x", 3, 7);
        bad(QUAY, "post 1 1;post 1 0;", 4, 14);
        bad(QUAY, "post 1 1;post 1", 4, 14);
        bad(QUAY, "gap 5 4 4", 2, 6);
        bad(QUAY, "gap 12345", 2, 4);
        bad(QUAY, "ship 499 100", 2, 5);
        bad(PLAN, "at 3 3 3;at 3 9 9", 4, 12);
        bad(PLAN, "at 3 9 9;at 3", 2, 5);
        bad(TIDE, "hour 1000 1000", 2, 5);
        bad(QUAY, "wind 5; 7 ; gap 1 0;", 1, 8);
    }

    private static void theLeastFault() {
        sentence("of these the least");
        // 1 ahead of 2: a NUMBER of five figures where none can stand.
        bad(QUAY, "12345", 1, 0);
        bad(QUAY, "wind 5 12345;", 1, 7);
        bad(QUAY, "wind 5;12345", 1, 7);
        // 1 ahead of 3: a word that was told already where none can stand.
        bad(QUAY, "wind 5;gap wind", 1, 11);
        bad(QUAY, "wind 5;gap 1 wind", 1, 13);
        // 2 ahead of 4: five figures that tell what another has told.
        bad(QUAY, "post 7 1;post 00007 1;", 2, 14);
        bad(PLAN, "at 7 1 1;at 00007 1 1;", 2, 12);
        bad(PLAN, "at 7 1 1;at 00003 1 1;", 2, 12);
        // 1 ahead of 3: the word of a 13th clause that is none.
        bad(QUAY, manyPosts(12) + "postt 5 5;", 1, manyPosts(12).length());
        bad(PLAN, manySeconds(20) + "att 5 5 5;", 1, manySeconds(20).length());
        bad(TIDE, "hour 1;".repeat(24) + "hourr 5;", 1, 168);
    }

    private static void fault1() {
        sentence("1 it cannot stand there (a word that cannot: at its first letter)");
        bad(QUAY, "wind 5;breeze 5;", 1, 7);
        bad(QUAY, "gap 1 breeze", 1, 6);
        bad(QUAY, "gap 1 2 breeze", 1, 8);
        bad(QUAY, "gap breeze", 1, 4);
        bad(QUAY, ";", 1, 0);
        bad(QUAY, "wind 5;;", 1, 7);
        bad(QUAY, "7", 1, 0);
        bad(QUAY, "gap 1;", 1, 5);
        // Words of other texts.
        bad(QUAY, "at 1 1 1;", 1, 0);
        bad(QUAY, "hour 1;", 1, 0);
        for (String clause : ONCE) {
            bad(PLAN, clause, 1, 0);
            bad(TIDE, clause, 1, 0);
        }
        bad(PLAN, "post 1 1;", 1, 0);
        bad(TIDE, "post 1 1;", 1, 0);
        bad(PLAN, "hour 1;", 1, 0);
        bad(TIDE, "at 1 1 1;", 1, 0);
    }

    private static void fault2() {
        sentence("2 a NUMBER of five figures or more, or out of its bounds (at its first)");
        bad(QUAY, "wind    00005;", 2, 8);
        bad(QUAY, "wind    100;", 2, 8);
        bad(QUAY, "slow 5 5 00005;", 2, 9);
        bad(QUAY, "slow 5 5 51;", 2, 9);
        bad(QUAY, "slow 50 50 5123456;", 2, 11);
        bad(PLAN, "at 5 00003 3;", 2, 5);
        bad(TIDE, "hour 00005;", 2, 5);
    }

    private static void fault3() {
        sentence("a 13th POST, a 21st 'at', a 25th 'hour' (at its first letter)");
        bad(QUAY, manyPosts(12) + "  post 9000 9;", 3, manyPosts(12).length() + 2);
        bad(PLAN, manySeconds(20) + "  at 900 3 3;", 3, manySeconds(20).length() + 2);
        bad(TIDE, "hour 1;".repeat(24) + "  hour 9;", 3, 170);
        // It is one too many whatever follows it.
        bad(QUAY, manyPosts(12) + "post", 3, manyPosts(12).length());
        bad(PLAN, manySeconds(20) + "at 0", 3, manySeconds(20).length());
        bad(TIDE, "hour 1;".repeat(24) + "hour12345", 3, 168);
        // Other clauses may still come behind twelve POSTS.
        due("wind", good(QUAY, manyPosts(12) + "wind 5;", 12).told(10), 5);
    }

    private static void fault4() {
        sentence("4 a POST at an X that has one, a T not above the one ahead (at it)");
        bad(QUAY, "post 7 1;post    0007 1;", 4, 17);
        bad(PLAN, "at 7 1 1;at    0007 1 1;", 4, 15);
        bad(PLAN, "at 7 1 1;at    6", 4, 15);
        // Strengths may be alike, and so may E, R, and heights.
        good(QUAY, "post 7 5;post 5 5;", 2);
        good(PLAN, "at 7 5 5;at 8 5 5;", 2);
        good(TIDE, "hour 5;hour 5;", 2);
    }

    // -- promises

    private static void aNewObject() {
        sentence("Promise 1: THE QUAY as untold, without POSTS; THE SHIP at X 4500, Y 3000, all else 0; no lines, no PLAN, no TIDE.");
        AlongsideLines x = new AlongsideLines();
        int[] untold = {0, 9000, 5000, 30, 8, 10, 20, 2, 10, 10, 2, 10, 10, 0, 0, 0, 0};
        for (int what = 0; what < untold.length; what++) {
            due("told(" + what + ")", x.told(what), untold[what]);
        }
        long[] first = {4500, 3000, 0, 0, 0, 0, 0, 0, 0, 0, 0, 0, 0, 3000, 3000, 0, 0};
        for (int what = 0; what < first.length; what++) {
            due("now(" + what + ")", x.now(what), first[what]);
        }
        for (int l = 0; l < 6; l++) {
            due("line(" + l + ", 0)", x.line(l, 0), UNKNOWN);
        }
        due("post(0, 0)", x.post(0, 0), UNKNOWN);
        due("fault()", x.fault(), NONE);
        due("judge(0)", x.judge(0), NONE);
        due("clear()", x.clear(), 0);
        due("seed(0)", x.seed(0), 0);
        due("goBack(0)", x.goBack(0), AlongsideLines.NOT);
        due("goBack(1)", x.goBack(1), AlongsideLines.NOT);
        // Two objects have nothing in common.
        x.put(0, 5);
        x.feed(1, ';');
        due("another's X", new AlongsideLines().now(0), 4500);
        due("another's TEXT", new AlongsideLines().told(16), 0);
    }

    private static void feeding() {
        sentence("Promise 2: The lowest n bytes (1 .. 8) of a long, the highest of these first, come behind THE TEXT: how many it has.");
        for (int n : new int[] {0, 9, -1, LEAST, MOST}) {
            due("feed(" + n + ")", new AlongsideLines().feed(n, 0x20L), OUTSIDE);
        }
        for (int n = 1; n <= 8; n++) {
            AlongsideLines x = new AlongsideLines();
            due("feed(" + n + ")", x.feed(n, 0x2020202020202020L), n);
            due("feed(" + n + ") again", x.feed(n, 0x2020202020202020L), 2 * n);
            due("told(16)", x.told(16), 2 * n);
        }
        // 'post1 2;' in eight bytes, then 'wind' .. behind bytes that do not count.
        AlongsideLines x = new AlongsideLines();
        due("eight", x.feed(8, 0x706f73743120323bL), 8);
        due("four of eight", x.feed(4, 0xffffffff77696e64L), 12);
        due("two of eight", x.feed(2, -0x10000L + 0x3733L), 14);
        due("one of eight", x.feed(1, 0x3b3b3b3b3b3b3b3bL), 15);
        due("quay()", x.quay(), 1);
        due("X", x.post(0, 0), 1);
        due("strength", x.post(0, 1), 2);
        due("wind", x.told(10), 73);
        // Bytes from 128 on in the highest place of a long below 0.
        due("-1", x.feed(8, -1L), 8);
        due("LEAST", x.feed(8, Long.MIN_VALUE), 16);
        due("quay()", x.quay(), -11);
        due("fault()", x.fault(), 0);
    }

    private static void feedingFull() {
        sentence("Promise 2: OUTSIDE, FULL (300).");
        for (int n = 1; n <= 8; n++) {
            AlongsideLines x = new AlongsideLines();
            Checks.feed(x, " ".repeat(300 - n));
            if (n < 8) {
                due("feed(" + (n + 1) + ") at " + (300 - n), x.feed(n + 1, 0x2020202020202020L), FULL);
            }
            due("feed(9) at " + (300 - n), x.feed(9, 0), OUTSIDE);
            due("told(16)", x.told(16), 300 - n);
            due("feed(" + n + ") at " + (300 - n), x.feed(n, 0x2020202020202020L), 300);
            due("feed(1) at 300", x.feed(1, 0x20L), FULL);
            due("feed(0) at 300", x.feed(0, 0x20L), OUTSIDE);
            due("feed(9) at 300", x.feed(9, 0x20L), OUTSIDE);
            due("told(16)", x.told(16), 300);
            due("quay()", x.quay(), 0);
            due("feed(8) when read", x.feed(8, 0x2020202020202020L), 8);
        }
    }

    private static void quays() {
        sentence("Promise 3: (THE SHIP, E, R, the TUG as at first, no lines, nothing counted; IMAGES are gone; THE PLAN, THE TIDE, THE LOG, THE SEED stay)");
        AlongsideLines x = new AlongsideLines();
        Twins.underWay(x);
        x.keep(1);
        x.put(8, 9);
        due("harmed", x.now(10) > 0 ? 1 : 0, 1);
        due("knocked", x.now(11) > 0 ? 1 : 0, 1);
        due("fell", x.now(12), 1);
        int seed = x.seed(5);
        x.seed(seed);
        x.plan();
        Checks.plan(x, "at 0 5 4;");
        due("an empty text", x.quay(), 0);
        long[] first = {4500, 3000, 0, 0, 0, 0, 0, 0, 0, 0, 0, 0, 0, 3000, 3000, 0, 0};
        for (int what = 0; what < first.length; what++) {
            due("now(" + what + ")", x.now(what), first[what]);
        }
        for (int l = 0; l < 6; l++) {
            due("line(" + l + ", 0)", x.line(l, 0), UNKNOWN);
        }
        due("goBack(0)", x.goBack(0), AlongsideLines.NOT);
        due("goBack(1)", x.goBack(1), AlongsideLines.NOT);
        due("PLAN", x.told(14), 1);
        due("TIDE", x.told(15), 3);
        due("SEED", x.seed(0), seed);
        due("LOG", x.judge(0), 0);
        due("LOG's entries", x.clear(), 5);
        x.follow(1);
        due("PLAN's E", x.now(6), 2);
        due("PLAN's R", x.now(7), 1);
        Checks.quay(x, "post 4500 5;");
        x.fast(0, 0, 0, 0);
        due("TIDE's height", x.needs(0, 1, 300), 450);
    }

    private static void quaysWithFaults() {
        sentence("Promise 3: (it is empty then, with a FAULT, too) .. -10 less the number of its FAULT (all else is as it was)");
        faultyChangesNothing("quay", QUAY, new String[] {"gap 1 2;gap", "post 5 0;", "x", "post 1 1;post 1 1;"}, new int[] {3, 2, 1, 4});
        sentence("Promise 4: (it is empty then, with a FAULT, too) .. -10 less the number of its FAULT (all else is as it was)");
        faultyChangesNothing("plan", PLAN, new String[] {"at 1 1 1;at 1 1 1;", "at 5 7 7;", "at", manySeconds(21)}, new int[] {4, 2, 1, 3});
        sentence("Promise 5: (it is empty then, with a FAULT, too) .. -10 less the number of its FAULT (all else is as it was)");
        faultyChangesNothing("tide", TIDE, new String[] {"hour 7;hour 1000;", "hour 7;hours", "hour 7;".repeat(25)}, new int[] {2, 1, 3});
    }

    /** A faulty text is like an empty text that was never read, but for fault(). */
    private static void faultyChangesNothing(String name, int kind, String[] texts, int[] numbers) {
        for (int i = 0; i < texts.length; i++) {
            AlongsideLines x = new AlongsideLines();
            AlongsideLines y = new AlongsideLines();
            for (AlongsideLines z : new AlongsideLines[] {x, y}) {
                Twins.underWay(z);
                z.plan();
            }
            due(name + " " + shown(texts[i]), read(x, kind, texts[i]), -10 - numbers[i]);
            due(name + " TEXT", x.told(16), 0);
            due(name + " fault()", x.fault() >= 0 ? 1 : 0, 1);
            // The last that the twins ask of each other is an empty quay: faults are alike from then on.
            java.util.List<String> is = Twins.allOf(x);
            java.util.List<String> was = Twins.allOf(y);
            for (int k = 0; k < was.size(); k++) {
                if (!was.get(k).startsWith("fault()")) {
                    due(name + " changed " + was.get(k) + " to " + is.get(k), is.get(k).equals(was.get(k)) ? 1 : 0, 1);
                }
            }
        }
    }

    private static void planAnswers() {
        sentence("Promise 4: THE TEXT (it is empty then, with a FAULT, too) becomes THE PLAN: how many clauses");
        AlongsideLines x = new AlongsideLines();
        due("two", Checks.plan(x, "at 0 4 4;at 5 5 5;"), 2);
        due("told(14)", x.told(14), 2);
        due("told(16)", x.told(16), 0);
        // A plan of fewer clauses leaves nothing of the one before.
        due("one", Checks.plan(x, "at 1 6 6;"), 1);
        x.follow(9);
        due("E", x.now(6), 3);
        due("R", x.now(7), 3);
        x.put(6, 0);
        due("none", x.plan(), 0);
        due("told(14)", x.told(14), 0);
        x.follow(9);
        due("E as it was", x.now(6), 0);
        due("R as it was", x.now(7), 3);
        // The ship, her lines, the images stay.
        x = new AlongsideLines();
        Twins.underWay(x);
        long before = x.now(0);
        due("plan()", x.plan(), -11);
        due("none", x.plan(), 0);
        due("none", x.tide(), 0);
        due("X", x.now(0), before);
        due("lines", x.now(16), 3);
        due("goBack(0)", x.goBack(0), 1);
    }

    private static void tideAnswers() {
        sentence("Promise 5: THE TEXT (it is empty then, with a FAULT, too) becomes THE TIDE: how many hours");
        AlongsideLines x = Checks.at("post 4500 9;");
        x.fast(0, 0, 0, 0);
        due("three", Checks.tide(x, "hour 5;hour 6;hour 7;"), 3);
        due("told(15)", x.told(15), 3);
        due("told(16)", x.told(16), 0);
        due("the last", x.needs(0, 2, 300), 7);
        due("one", Checks.tide(x, "hour 9;"), 1);
        due("told(15)", x.told(15), 1);
        due("the first", x.needs(0, 0, 300), 9);
        due("no second", x.needs(0, 1, 300), UNKNOWN);
        due("none", x.tide(), 0);
        due("no first", x.needs(0, 0, 300), UNKNOWN);
        due("lines stay", x.now(16), 1);
    }

    private static void faultPlaces() {
        sentence("Promise 6: The place (from 0 on) of the byte that has the FAULT of the latest quay(), plan() or tide(); NONE.");
        AlongsideLines x = new AlongsideLines();
        due("new", x.fault(), NONE);
        Checks.quay(x, "  x");
        due("quay", x.fault(), 2);
        x.feed(1, ' ');
        due("feed leaves it", x.fault(), 2);
        Checks.plan(x, "at 7");
        due("plan", x.fault(), 5);
        Checks.tide(x, "hour 1;x");
        due("tide", x.fault(), 7);
        due("a tide that is good", x.tide(), 0);
        due("none", x.fault(), NONE);
        Checks.plan(x, "x");
        due("at 0", x.fault(), 0);
        due("a quay that is good", x.quay(), 0);
        due("none of the latest", x.fault(), NONE);
        Checks.quay(x, " x");
        due("again", x.fault(), 1);
        due("a plan that is good", x.plan(), 0);
        due("none again", x.fault(), NONE);
        Checks.quay(x, " ".repeat(299) + "x");
        due("the 300th byte", x.fault(), 299);
    }

    private static void tellings() {
        sentence("Promise 7: what = 0, 1 A, B, .. 16 bytes of THE TEXT. OUTSIDE.");
        AlongsideLines x = new AlongsideLines();
        Checks.quay(x, String.join("", ONCE) + "post 5 5;");
        Checks.plan(x, "at 1 1 1;at 2 2 2;");
        Checks.tide(x, "hour 1;hour 2;hour 3;");
        Checks.feed(x, "1234");
        int[] told = {3, 4, 501, 2, 3, 4, 5, 6, 7, 8, 9, 11, 12, 1, 2, 3, 4};
        for (int what = 0; what < told.length; what++) {
            due("told(" + what + ")", x.told(what), told[what]);
        }
        for (int what : new int[] {-1, 17, LEAST, MOST}) {
            due("told(" + what + ")", x.told(what), OUTSIDE);
        }
    }

    private static void tellingPosts() {
        sentence("Promise 8: Of a POST: what = 0 X, 1 strength. UNKNOWN, OUTSIDE.");
        AlongsideLines x = Checks.at("post 7 8;post 9 10;");
        due("post(0, 0)", x.post(0, 0), 7);
        due("post(0, 1)", x.post(0, 1), 8);
        due("post(1, 0)", x.post(1, 0), 9);
        due("post(1, 1)", x.post(1, 1), 10);
        for (int k : new int[] {-1, 2, 11, 12, LEAST, MOST}) {
            due("post(" + k + ", 0)", x.post(k, 0), UNKNOWN);
            due("post(" + k + ", 2)", x.post(k, 2), UNKNOWN);
        }
        for (int what : new int[] {-1, 2, LEAST, MOST}) {
            due("post(0, " + what + ")", x.post(0, what), OUTSIDE);
            due("post(1, " + what + ")", x.post(1, what), OUTSIDE);
        }
        // A POST of an earlier quay is not there any more.
        Checks.quay(x, "post 3 4;");
        due("post(1, 0) of one", x.post(1, 0), UNKNOWN);
    }
}
