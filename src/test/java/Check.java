/** What the tests share: bridges made of texts, and the count of answers that are not as due. */
final class Check {
    static final int NONE = -1, UNKNOWN = -1000000001, OUTSIDE = -1000000002, NOT = -1000000003, FULL = -1000000004;
    /** A ring 0 -> 1 -> 2 -> 0, and one traveller of each kind. */
    static final String RING = "k10 2;m30 2;m20 4;m45 1;t0 3 7;t1 0 1;t2 2 6;t3 9 6;t4 0 7;";
    /** Numbers that no traveller, matter or image has, and that no bound allows. */
    static final int[] WILD = {-1, -2, Integer.MIN_VALUE, Integer.MAX_VALUE, 1000000};

    private static int right = 0;
    private static int wrong = 0;

    private Check() {
    }

    static void due(String call, int got, int want) {
        if (got == want) {
            right++;
        } else {
            wrong++;
            System.out.println(call + " answered " + got + ", due is " + want);
        }
    }

    static void feed(TollDelay x, String text) {
        for (int i = 0; i < text.length(); i++) {
            x.feed(text.charAt(i));
        }
    }

    static int tellBridge(TollDelay x, String text) {
        feed(x, text);
        return x.bridge();
    }

    static TollDelay built(String text) {
        TollDelay x = new TollDelay();
        int answer = tellBridge(x, text);
        if (answer < 0) {
            wrong++;
            System.out.println("the test's own text " + text + " has a fault: " + answer);
        }
        return x;
    }

    /** All that can be seen of section 2 and of the bridge, so that a test can say 'nothing changed'. */
    static String seen(TollDelay x) {
        StringBuilder all = new StringBuilder();
        for (int what = 0; what <= 20; what++) {
            all.append(what == 4 ? 0 : x.told(what)).append(' ');
        }
        for (int t = 0; t < 6; t++) {
            for (int what = 0; what <= 6; what++) {
                all.append(x.traveller(t, what)).append(' ');
            }
        }
        for (int m = 0; m < 8; m++) {
            for (int what = 0; what <= 3; what++) {
                all.append(x.matter(m, what)).append(' ');
            }
        }
        return all.toString();
    }

    static void same(String what, String got, String want) {
        if (got.equals(want)) {
            right++;
        } else {
            wrong++;
            System.out.println(what + " shows\n  " + got + ", due is\n  " + want);
        }
    }

    static void end(String name) {
        System.out.println(name + ": " + right + " answers as due, " + wrong + " not");
        if (wrong != 0) {
            System.exit(1);
        }
    }
}
