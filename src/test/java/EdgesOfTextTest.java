/** The edges of the document's section 1 and of promises 1 to 4, sentence by sentence. */
public final class EdgesOfTextTest {
    private static final String EIGHT = "m1 0;m1 0;m1 0;m1 0;m1 0;m1 0;m1 0;m1 0;";
    private static final String SIX = "t0 0 0;t0 0 0;t0 0 0;t0 0 0;t0 0 0;t0 0 0;";
    private static final String SOUND = "k15 3;m20 6;t0 2 255;";
    /** A bridge in the midst of an evening, so that a fault has much that it could spoil. */
    private static final Edge STANDS = Edges.story();

    public static void main(String[] args) {
        lettersAtMost();
        lettersOutside();
        fullTextIsReadWhole();
        bounds();
        mattersAtMost();
        travellersAtMost();
        keeperOnce();
        keeperFirst();
        mattersThereAreNot();
        figures();
        blanks();
        blanksWithinNumbers();
        sideBySide();
        firstWords();
        laterWords();
        numberPlaces();
        clauseEnds();
        theEnd();
        noWord();
        firstFault();
        leastFault();
        emptyText();
        faultOfTheLatest();
        bridgeBeginsAnew();
        Check.end("EdgesOfTextTest");
    }

    private static String repeated(String part, int n) {
        return part.repeat(n);
    }

    private static void sound(String text, int travellers) {
        Edge.fresh().feeds(text).due("bridge", travellers).due("fault", Edge.NONE).due("told 4", 0);
    }

    private static void faulty(String text, int kind, int at) {
        STANDS.faulty(text, kind, at);
    }

    /** "in a text (240 letters at most)"; "FULL (240)". */
    private static void lettersAtMost() {
        Edge text = Edge.fresh();
        for (int i = 1; i <= 240; i++) {
            text.due("feed 32", i).due("told 4", i);
        }
        Edge full = Edge.fresh().feeds(repeated(" ", 239)).due("feed 120", 240);
        full.refused("feed 32", Edge.FULL).refused("feed 0", Edge.FULL).refused("feed 255", Edge.FULL);
        full.due("bridge", -11).due("fault", 239).due("told 4", 0).due("feed 107", 1);
        Edges.storyOpen().feeds(repeated(" ", 237)).refused("feed 59", Edge.FULL);
    }

    /** "A letter (0 .. 255)"; OUTSIDE ahead of FULL. */
    private static void lettersOutside() {
        int[] outside = {-1, 256, 257, 1000, Edge.LEAST, Edge.MOST};
        Edge.fresh().refusedFor("feed ?", Edge.OUTSIDE, outside);
        Edges.storyOpen().refusedFor("feed ?", Edge.OUTSIDE, outside);
        Edge.fresh().feeds(repeated(" ", 240)).refusedFor("feed ?", Edge.OUTSIDE, outside);
        Edge.fresh().due("feed 0", 1).due("feed 255", 2).due("feed 1", 3).due("feed 254", 4).due("bridge", -11).due("fault", 0);
    }

    private static void fullTextIsReadWhole() {
        String long1 = "k7 2;" + repeated(" ", 228) + "t0 0 0;";
        Edge.fresh().feeds(long1).due("told 4", 240).refused("feed 120", Edge.FULL).due("bridge", 1).due("told 0", 7);
        String open = "k7 2;" + repeated(" ", 229) + "t0 0 0";
        Edge.fresh().feeds(open).refused("feed 59", Edge.FULL).due("bridge", -11).due("fault", 240).due("told 4", 0);
        faulty("k7 2;" + repeated(" ", 234) + "m", 1, 240);
        faulty("k7 2;" + repeated(" ", 234) + "x", 1, 239);
        faulty("k7 2;" + repeated(" ", 234) + "k", 3, 239);
        faulty("k7 2;m1" + repeated(" ", 230) + "256", 2, 237);
        faulty("k7 2;m1" + repeated(" ", 230) + "255", 1, 240);
    }

    /** The bounds of each NUMBER, and "2 a NUMBER .. out of its bounds (at its first)": every number of up to four figures. */
    private static void bounds() {
        bound("k", " 1;", 1, 60, "told 0");
        bound("k1 ", ";", 1, 9, "told 1");
        bound("k1 1;m", " 0;", 1, 60, "matter 0 0");
        bound("k1 1;m1 ", ";" + repeated("m1 0;", 7), 0, 255, "matter 0 1");
        bound("k1 1;t", " 0 0;", 0, 4, "traveller 0 0");
        bound("k1 1;t0 ", " 0;", 0, 9, "traveller 0 1");
        bound("k1 1;" + EIGHT + "t0 0 ", ";", 0, 255, "traveller 0 2");
    }

    private static void bound(String ahead, String behind, int least, int most, String asked) {
        for (int n = 0; n <= 1000; n++) {
            Edge edge = Edge.fresh().feeds(ahead + n + behind);
            if (n >= least && n <= most) {
                edge.due("bridge", ahead.indexOf('t') < 0 ? 0 : 1).due("fault", Edge.NONE).due(asked, n);
            } else {
                edge.due("bridge", -12).due("fault", ahead.length()).due("told 4", 0);
            }
        }
        faulty(ahead + (most + 1) + behind, 2, ahead.length());
        if (least > 0) {
            faulty(ahead + (least - 1) + behind, 2, ahead.length());
        }
        for (String far : new String[] {"9999", "00001", "4294967297", "18446744073709551617", repeated("9", 100)}) {
            faulty(ahead + far + behind, 2, ahead.length());
        }
    }

    /** "8 MATTERS at most"; "3 .. a ninth 'm' .. (at it)". */
    private static void mattersAtMost() {
        sound("k1 1;", 0);
        Edge.fresh().feeds("k1 1;" + EIGHT).due("bridge", 0).due("told 2", 8).due("matter 7 0", 1).due("matter 8 0", Edge.UNKNOWN);
        faulty("k1 1;" + EIGHT + "m1 0;", 3, 45);
        faulty("k1 1;" + EIGHT + "m", 3, 45);
        faulty("k1 1;" + EIGHT + "mx", 3, 45);
        faulty("k1 1;" + EIGHT + "  m99 0;", 3, 47);
        faulty("k1 1;" + EIGHT + "t0 0 0;m1 0;", 3, 52);
        sound("k1 1;" + EIGHT + SIX, 6);
    }

    /** "6 TRAVELLERS at most"; "a seventh 't' (at it)". */
    private static void travellersAtMost() {
        Edge.fresh().feeds("k1 1;" + SIX).due("bridge", 6).due("told 3", 6).due("traveller 5 0", 0).due("traveller 6 0", Edge.UNKNOWN);
        faulty("k1 1;" + SIX + "t0 0 0;", 3, 47);
        faulty("k1 1;" + SIX + "t", 3, 47);
        faulty("k1 1;" + SIX + " t9", 3, 48);
        faulty("k1 1;" + SIX + "m1 0;t0 0 0;", 3, 52);
        faulty("k1 1;" + SIX + EIGHT + "m", 3, 87);
        faulty("k1 1;" + SIX + EIGHT + "t", 3, 87);
    }

    /** "'k' .. (first, once)"; "3 'k' again (at it)". */
    private static void keeperOnce() {
        faulty("k1 1;k1 1;", 3, 5);
        faulty("k1 1;k", 3, 5);
        faulty("k1 1;kx", 3, 5);
        faulty("k1 1;   k99 1;", 3, 8);
        faulty("k1 1;m1 0;t0 0 0;k1 1;", 3, 17);
    }

    /** "1 .. another word first than 'k'". */
    private static void keeperFirst() {
        faulty("m1 0;k1 1;", 1, 0);
        faulty("t0 0 0;k1 1;", 1, 0);
        faulty("  m1 0;", 1, 2);
        faulty(" t9 9 999;", 1, 1);
        faulty("m99 0;", 1, 0);
    }

    /** "leads on to a SET R .. those there are not are no matter". */
    private static void mattersThereAreNot() {
        Edge.fresh().feeds("k1 1;t0 0 255;m1 255;m1 254;m1 248;").due("bridge", 1)
            .due("matter 0 1", 7).due("matter 1 1", 6).due("matter 2 1", 0).due("traveller 0 2", 7)
            .due("matter 2 2", 0).due("matter 2 3", Edge.NONE);
        Edge.fresh().feeds("k1 1;t0 0 255;").due("bridge", 1).due("traveller 0 2", 0);
        Edge.fresh().feeds("k1 1;m1 255;" + repeated("m1 0;", 6) + "t0 0 255;").due("bridge", 1)
            .due("matter 0 1", 127).due("traveller 0 2", 127);
        Edge.fresh().feeds("k1 1;m1 255;" + repeated("m1 0;", 7) + "t0 0 255;").due("bridge", 1)
            .due("matter 0 1", 255).due("traveller 0 2", 255);
    }

    /** "NUMBERS have one to three figures"; "2 a NUMBER of four figures or more (at its first)". */
    private static void figures() {
        sound("k1 1;", 0);
        sound("k01 01;", 0);
        sound("k001 009;", 0);
        Edge.fresh().feeds("k060 009;m060 000;t000 009 000;").due("bridge", 1).due("told 0", 60).due("told 1", 9)
            .due("matter 0 0", 60).due("traveller 0 1", 9);
        faulty("k 1;", 1, 3);
        faulty("k;", 1, 1);
        faulty("k0001 1;", 2, 1);
        faulty("k1 0001;", 2, 3);
        faulty("k1 1;m0001 0;", 2, 6);
        faulty("k1 1;m1 0000;", 2, 8);
        faulty("k1 1;t0000 0 0;", 2, 6);
        faulty("k1 1;t0 0000 0;", 2, 8);
        faulty("k1 1;t0 0 0000;", 2, 10);
        faulty("k0001", 2, 1);
        faulty("k000", 2, 1);
    }

    /** "blanks (32) may stand anywhere but within NUMBERS": every other place, and no other letter. */
    private static void blanks() {
        for (int at = 0; at <= SOUND.length(); at++) {
            boolean within = at > 0 && at < SOUND.length() && figure(SOUND.charAt(at - 1)) && figure(SOUND.charAt(at));
            if (!within) {
                sound(SOUND.substring(0, at) + " " + SOUND.substring(at), 1);
                sound(SOUND.substring(0, at) + "     " + SOUND.substring(at), 1);
            }
        }
        for (int letter : new int[] {0, 9, 10, 13, 31, 33, 160, 255}) {
            faulty((char) letter + "k1 1;", 1, 0);
            faulty("k1 1" + (char) letter + ";", 1, 4);
            faulty("k1" + (char) letter + "1;", 1, 2);
            faulty("k1 1;" + (char) letter, 1, 5);
        }
    }

    private static boolean figure(char letter) {
        return letter >= '0' && letter <= '9';
    }

    /** A blank within a NUMBER makes two of it, so that one too many comes. */
    private static void blanksWithinNumbers() {
        faulty("k1 5 3;", 1, 5);
        faulty("k1 1;m2 0 6;", 1, 10);
        faulty("k1 1;t0 2 25 5;", 1, 13);
    }

    /** "two NUMBERS side by side need one". */
    private static void sideBySide() {
        faulty("k15;", 1, 3);
        faulty("k1 1;m10;", 1, 8);
        faulty("k1 1;t10 2;", 2, 6);
        faulty("k1 1;t1 02;", 1, 10);
        faulty("k1 1;t123;", 2, 6);
        faulty("k1 1;t1 2;", 1, 9);
        sound("k1 5;", 0);
        sound("k1 1;m1 0;t1 0 2;", 1);
    }

    /** Every letter where the first word stands: "1 it cannot stand there (a letter that is no word ..)". */
    private static void firstWords() {
        for (int letter = 0; letter <= 255; letter++) {
            Edge text = Edge.fresh().does("feed " + letter);
            if (letter == ' ') {
                text.due("bridge", 0).due("fault", Edge.NONE);
            } else {
                text.due("bridge", -11).due("fault", letter == 'k' ? 1 : 0);
            }
        }
    }

    private static void laterWords() {
        for (int letter = 0; letter <= 255; letter++) {
            Edge text = Edge.fresh().feeds("k1 1;").does("feed " + letter);
            if (letter == ' ') {
                text.due("bridge", 0).due("fault", Edge.NONE);
            } else if (letter == 'k') {
                text.due("bridge", -13).due("fault", 5);
            } else {
                text.due("bridge", -11).due("fault", letter == 'm' || letter == 't' ? 6 : 5);
            }
        }
    }

    /** Every letter where a NUMBER must come: Q is the first, so 0 is out of its bounds. */
    private static void numberPlaces() {
        for (int letter = 0; letter <= 255; letter++) {
            Edge text = Edge.fresh().feeds("k").does("feed " + letter);
            if (letter == '0') {
                text.due("bridge", -12).due("fault", 1);
            } else {
                text.due("bridge", -11).due("fault", letter == ' ' || figure((char) letter) ? 2 : 1);
            }
        }
    }

    private static void clauseEnds() {
        for (int letter = 0; letter <= 255; letter++) {
            Edge text = Edge.fresh().feeds("k1 1").does("feed " + letter);
            if (letter == ';') {
                text.due("bridge", 0).due("fault", Edge.NONE);
            } else if (figure((char) letter)) {
                text.due("bridge", -12).due("fault", 3);
            } else {
                text.due("bridge", -11).due("fault", letter == ' ' ? 5 : 4);
            }
        }
    }

    /** "(the end at the text's length)": a text cut off anywhere but behind a clause. */
    private static void theEnd() {
        for (int length = 0; length <= SOUND.length(); length++) {
            String text = SOUND.substring(0, length);
            if (text.isEmpty() || text.endsWith(";")) {
                sound(text, text.length() == SOUND.length() ? 1 : 0);
                sound(text + "  ", text.length() == SOUND.length() ? 1 : 0);
            } else {
                faulty(text, 1, length);
                faulty(text + "   ", 1, length + 3);
            }
        }
    }

    /** "a letter that is no word": wherever it stands in a sound text. */
    private static void noWord() {
        for (int at = 0; at < SOUND.length(); at++) {
            for (char letter : new char[] {'x', 'K', '-', ',', '/', ':', '<', (char) 0, (char) 255}) {
                faulty(SOUND.substring(0, at) + letter + SOUND.substring(at + 1), 1, at);
            }
        }
    }

    /** "FAULTS, at the first letter that has one". */
    private static void firstFault() {
        faulty("k61 x", 2, 1);
        faulty("k61", 2, 1);
        faulty("k0 0;", 2, 1);
        faulty("k1 0 x", 2, 3);
        faulty("k1 1;k0", 3, 5);
        faulty("k1 1;x0001", 1, 5);
        faulty("k1 1;m61 999;k", 2, 6);
        faulty("k1 1;m1 x;k1 1;", 1, 8);
        faulty("k1 1;t0 10 256;", 2, 8);
    }

    /** "of these the least": letters that have two faults at once. */
    private static void leastFault() {
        faulty("kk", 1, 1);
        faulty("k1k", 1, 2);
        faulty("k1 1k", 1, 4);
        faulty("k1 1;mk1 1;", 1, 6);
        faulty("k1 1 9999;", 1, 5);
        faulty("k1 1;9999", 1, 5);
        faulty("9999", 1, 0);
        faulty("k1 1;m1 0 256;", 1, 10);
        faulty("k1 1;" + EIGHT + "tm", 1, 46);
        faulty("k1 1;" + SIX + "mt", 1, 48);
        faulty("k1 1;" + EIGHT + "t0 0 0m", 1, 51);
    }

    /** "An empty text: no BRIDGE"; promise 1: "No BRIDGE"; "0 Q (0 without a BRIDGE)". */
    private static void emptyText() {
        noBridge(Edge.fresh());
        noBridge(Edge.fresh().due("bridge", 0).due("fault", Edge.NONE));
        noBridge(Edges.story().due("bridge", 0).due("fault", Edge.NONE));
        noBridge(Edges.story().feeds("  ").due("bridge", 0).due("fault", Edge.NONE));
        Edge.of("k1 1;").due("told 0", 1).due("minute 1", 1).due("anew", 1).due("drift 1", 2);
    }

    private static void noBridge(Edge edge) {
        edge.dueRow("told", 0, 0, 0, 0, 0, 0, 0, 0, 0, -1, 0, -1, 0, 0, 0, 0, -1, -1, 0, 0, 0);
        edge.refused("told 21", Edge.OUTSIDE).refused("matter 0 0", Edge.UNKNOWN).refused("traveller 0 0", Edge.UNKNOWN);
        edge.refused("seat 0", Edge.UNKNOWN).refused("tell 0", Edge.UNKNOWN).refused("learn 0", Edge.UNKNOWN);
        edge.refused("rise", Edge.NOT).refused("anew", Edge.NOT).refused("undo 1", Edge.NOT);
        edge.refused("minute 1", Edge.NOT).refused("minute 60", Edge.NOT).refusedFor("minute ?", Edge.OUTSIDE, 0, 61);
        edge.refused("drift 1", Edge.NOT).refused("drift 30", Edge.NOT).refusedFor("drift ?", Edge.OUTSIDE, 0, 31);
        edge.refused("stay 0 0", Edge.UNKNOWN).refused("talk 0 0", Edge.UNKNOWN).refused("stayed 0 0", Edge.UNKNOWN);
        edge.refused("write 0 0", Edge.UNKNOWN).refused("goBack 0", Edge.NOT).refused("goBack 1", Edge.NOT);
        edge.due("queue 0", 0).due("queue 1", 0).due("couldBe", 0).due("ask", Edge.NONE).due("judge", Edge.NONE).due("tear", 0);
    }

    /** Promise 4: "of the latest bridge(); NONE". */
    private static void faultOfTheLatest() {
        Edge edge = Edge.fresh().due("fault", Edge.NONE).feeds("x").due("fault", Edge.NONE).due("bridge", -11).due("fault", 0);
        edge.feeds("k1 1;").due("fault", 0).refused("feed 256", Edge.OUTSIDE).due("bridge", 0).due("fault", Edge.NONE);
        edge.feeds("k1 1;k").due("bridge", -13).due("fault", 5).feeds("k0").due("bridge", -12).due("fault", 1);
        edge.does("minute 1").due("fault", 1).due("bridge", 0).due("fault", Edge.NONE);
    }

    /** Promise 3: what a new BRIDGE begins with, and what "stays". */
    private static void bridgeBeginsAnew() {
        Edge edge = Edges.story().does("rise").due("told 7", 6).feeds("k2 3;m4 0;m5 1;t1 0 3;t1 0 3;").due("bridge", 2);
        edge.dueRow("told", 2, 3, 2, 2, 0, 0, 0, 0, 1, -1, 0, -1, 3, 0, 0, 0, -1, 1, 0, 0, 0);
        edge.dueRow("traveller 0", 1, 0, 3, 0, 0, 60, 1).dueRow("traveller 1", 1, 0, 3, 0, 0, 60, 1);
        edge.refused("goBack 0", Edge.NOT).refused("goBack 1", Edge.NOT).refused("undo 1", Edge.NOT);
        edge.due("seed 0", 5);
        Edge.of("k1 1;t0 0 0;").due("told 8", 0).due("told 12", 1);
        Edge.of("k1 1;m1 0;m1 0;").due("told 8", 1).due("told 12", 0);
    }
}
