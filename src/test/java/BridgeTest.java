/** Promises 1 to 7: a new object, feed, bridge, fault, told, matter, traveller. */
public final class BridgeTest {
    public static void main(String[] args) {
        newObject();
        feeding();
        bridges();
        soundTexts();
        faults();
        faultLeavesAll();
        tolds();
        toldLearn();
        matters();
        travellers();
        Check.end("BridgeTest");
    }

    private static void newObject() {
        TollDelay x = new TollDelay();
        for (int what = 0; what <= 20; what++) {
            boolean none = what == 9 || what == 11 || what == 16 || what == 17;
            Check.due("new told(" + what + ")", x.told(what), none ? Check.NONE : 0);
        }
        Check.due("new fault", x.fault(), Check.NONE);
        Check.due("new matter", x.matter(0, 0), Check.UNKNOWN);
        Check.due("new traveller", x.traveller(0, 0), Check.UNKNOWN);
        Check.due("new seat", x.seat(0), Check.UNKNOWN);
        Check.due("new tell", x.tell(0), Check.UNKNOWN);
        Check.due("new rise", x.rise(), Check.NOT);
        Check.due("new learn", x.learn(0), Check.UNKNOWN);
        Check.due("new minute", x.minute(1), Check.NOT);
        Check.due("new anew", x.anew(), Check.NOT);
        Check.due("new drift", x.drift(1), Check.NOT);
        Check.due("new undo", x.undo(1), Check.NOT);
        Check.due("new stay", x.stay(0, 0), Check.UNKNOWN);
        Check.due("new talk", x.talk(0, 0), Check.UNKNOWN);
        Check.due("new queue(0)", x.queue(0), 0);
        Check.due("new queue(1)", x.queue(1), 0);
        Check.due("new couldBe", x.couldBe(), 0);
        Check.due("new ask", x.ask(), Check.NONE);
        Check.due("new judge", x.judge(), Check.NONE);
        Check.due("new tear", x.tear(), 0);
        Check.due("new seed", x.seed(0), 0);
        Check.due("new goBack", x.goBack(0), Check.NOT);
    }

    private static void feeding() {
        TollDelay x = new TollDelay();
        Check.due("feed -1", x.feed(-1), Check.OUTSIDE);
        Check.due("feed 256", x.feed(256), Check.OUTSIDE);
        Check.due("feed 0", x.feed(0), 1);
        Check.due("feed 255", x.feed(255), 2);
        for (int i = 3; i <= 240; i++) {
            Check.due("feed", x.feed(' '), i);
        }
        Check.due("feed full", x.feed(' '), Check.FULL);
        Check.due("feed full and outside", x.feed(256), Check.OUTSIDE);
        Check.due("letters", x.told(4), 240);
        Check.due("bridge of that", x.bridge(), -11);
        Check.due("fault of that", x.fault(), 0);
        Check.due("letters behind it", x.told(4), 0);
        Check.due("feed again", x.feed('k'), 1);
    }

    private static void bridges() {
        TollDelay x = new TollDelay();
        Check.due("ring", Check.tellBridge(x, Check.RING), 5);
        String fresh = Check.seen(x);
        x.seed(77);
        x.seat(0);
        x.tell(0);
        x.stayed(0, 1);
        x.write(0, 1);
        x.keep(1);
        x.minute(5);
        x.anew();
        x.seat(1);
        x.tell(0);
        Check.due("paid ahead of the new bridge", x.rise(), 6);
        Check.due("ring again", Check.tellBridge(x, Check.RING), 5);
        Check.same("ring again", Check.seen(x), fresh);
        Check.due("images are gone", x.goBack(1), Check.NOT);
        Check.due("nothing to undo", x.undo(1), Check.NOT);
        Check.due("the book is gone", x.tear(), 0);
        Check.due("the seed stays", x.seed(5), 77);
        x.minute(9);
        x.keep(0);
        Check.due("empty text", x.bridge(), 0);
        Check.due("no fault", x.fault(), Check.NONE);
        for (int what = 0; what <= 20; what++) {
            boolean none = what == 9 || what == 11 || what == 16 || what == 17;
            Check.due("no bridge told(" + what + ")", x.told(what), none ? Check.NONE : 0);
        }
        Check.due("no bridge minute", x.minute(1), Check.NOT);
        Check.due("no bridge image", x.goBack(0), Check.NOT);
        Check.due("no bridge seed", x.seed(5), 5);
        Check.due("rate alone", Check.tellBridge(x, "k60 9;"), 0);
        Check.due("rate alone Q", x.told(0), 60);
        Check.due("rate alone P", x.told(1), 9);
        Check.due("rate alone knows nothing", x.told(8), 0);
        Check.due("rate alone minute", x.minute(1), 1);
    }

    private static void soundTexts() {
        TollDelay x = new TollDelay();
        Check.due("blanks everywhere", Check.tellBridge(x, "  k  010   2 ; m 30 2 ;m 020 004;t 0 3 7  ;  "), 1);
        Check.due("blanks Q", x.told(0), 10);
        Check.due("blanks matters", x.told(2), 2);
        Check.due("blanks L", x.matter(1, 0), 20);
        Check.due("travellers ahead of matters", Check.tellBridge(x, "k1 1;t0 0 255;m1 255;m60 0;"), 1);
        Check.due("they mind what there is", x.traveller(0, 2), 3);
        Check.due("it leads to what there is", x.matter(0, 1), 3);
        Check.due("eight and six", Check.tellBridge(x, "k1 1;m1 0;m2 0;m3 0;m4 0;m5 0;m6 0;m7 0;m8 0;"
            + "t0 0 0;t1 0 0;t2 0 0;t3 0 0;t4 0 0;t0 9 0;"), 6);
        Check.due("the eighth", x.matter(7, 0), 8);
        Check.due("the sixth", x.traveller(5, 1), 9);
        Check.due("blanks alone tell no bridge", Check.tellBridge(x, "   "), 0);
        Check.due("blanks alone have no fault", x.fault(), Check.NONE);
        Check.due("blanks alone", x.told(0), 0);
    }

    private static void fault(String text, int kind, int at) {
        TollDelay x = new TollDelay();
        Check.due("bridge of '" + text + "'", Check.tellBridge(x, text), -10 - kind);
        Check.due("fault of '" + text + "'", x.fault(), at);
        Check.due("letters behind '" + text + "'", x.told(4), 0);
        Check.due("no bridge by '" + text + "'", x.told(0), 0);
    }

    private static void faults() {
        fault("x", 1, 0);
        fault("K1 1;", 1, 0);
        fault(" m1 0;", 1, 1);
        fault("t0 0 0;", 1, 0);
        fault(";", 1, 0);
        fault("5", 1, 0);
        fault("k", 1, 1);
        fault("k ", 1, 2);
        fault("k1", 1, 2);
        fault("k1 1", 1, 4);
        fault("k1 1  ", 1, 6);
        fault("k;", 1, 1);
        fault("kk", 1, 1);
        fault("k15;", 1, 3);
        fault("k1x", 1, 2);
        fault("k1 1 1;", 1, 5);
        fault("k1 1 1111;", 1, 5);
        fault("k1 1m1 0;", 1, 4);
        fault("k1 1;;", 1, 5);
        fault("k1 1;7", 1, 5);
        fault("k1 1;x", 1, 5);
        fault("k1 1;m1 k", 1, 8);
        fault("k1 1;m1 -1;", 1, 8);
        fault("k1 1;t1 1;", 1, 9);
        fault("k1 1;t1 1 1 1;", 1, 12);
        fault("k1 1\t;", 1, 4);
        fault("k0 1;", 2, 1);
        fault("k61 1;", 2, 1);
        fault("k61", 2, 1);
        fault("k1 0;", 2, 3);
        fault("k1 10x", 2, 3);
        fault("k0001 1;", 2, 1);
        fault("k99999999999999 1;", 2, 1);
        fault("k4294967297 1;", 2, 1);
        fault("k1 1;m0 0;", 2, 6);
        fault("k1 1;m61 0;", 2, 6);
        fault("k1 1;m1 256;", 2, 8);
        fault("k1 1;m1 0255;", 2, 8);
        fault("k1 1;t5 0 0;", 2, 6);
        fault("k1 1;t0 10 0;", 2, 8);
        fault("k1 1;t0 0 256;", 2, 10);
        fault("k1 1;k1 1;", 3, 5);
        fault("k1 1; k", 3, 6);
        fault("k1 1;m1 0;m1 0;m1 0;m1 0;m1 0;m1 0;m1 0;m1 0;m", 3, 45);
        fault("k1 1;t0 0 0;t0 0 0;t0 0 0;t0 0 0;t0 0 0;t0 0 0;tx", 3, 47);
    }

    private static void faultLeavesAll() {
        TollDelay x = Check.built(Check.RING);
        x.seed(9);
        x.keep(1);
        x.seat(1);
        x.tell(0);
        x.stayed(0, 1);
        x.write(0, 1);
        String before = Check.seen(x);
        Check.due("a faulty text", Check.tellBridge(x, "k5 5;m7 7;t0 0 0;m0"), -12);
        Check.due("its place", x.fault(), 18);
        Check.same("a faulty text", Check.seen(x), before);
        Check.due("undo goes on", x.undo(1), 0);
        Check.due("stayed goes on", x.stayed(0, 1), 2);
        Check.due("the image goes on", x.goBack(1), 1);
        Check.due("a sound text", Check.tellBridge(x, "k5 5;"), 0);
        Check.due("has no fault", x.fault(), Check.NONE);
    }

    private static void tolds() {
        TollDelay x = Check.built(Check.RING);
        int[] fresh = {10, 2, 3, 5, 0, 0, 0, 0, 1, -1, 0, -1, 31, 0, 0, 0, -1, 2, 0, 0, 0};
        for (int what = 0; what < fresh.length; what++) {
            Check.due("ring told(" + what + ")", x.told(what), fresh[what]);
        }
        Check.feed(x, "k1 ");
        Check.due("letters", x.told(4), 3);
        x.learn(2);
        x.anew();
        x.stayed(0, 1);
        x.write(0, 1);
        x.write(0, 1);
        x.seat(0);
        x.tell(2);
        x.tell(0);
        // 60 to learn, 42 and 27 told: travellers 1 and 4 wait 60 at most, so 69 is too long for all
        int[] then = {10, 2, 3, 5, 3, 129, 1, 0, 5, 0, 5, 0, 0, 0, 30, 0, 0, 1, 1, 2, 5};
        for (int what = 0; what < then.length; what++) {
            Check.due("then told(" + what + ")", x.told(what), then[what]);
        }
        x.rise();
        Check.due("paid", x.told(7), 12);
        Check.due("passed", x.told(13), 1);
        Check.due("nobody sits", x.told(9), Check.NONE);
        Check.due("nothing is told him", x.told(10), 0);
        Check.due("nothing was last", x.told(11), Check.NONE);
        Check.due("longest sat", x.told(16), 0);
        x.anew();
        Check.due("nobody sat", x.told(16), Check.NONE);
        for (int wild : Check.WILD) {
            Check.due("told(" + wild + ")", x.told(wild), Check.OUTSIDE);
        }
        Check.due("told(21)", x.told(21), Check.OUTSIDE);
        TollDelay nobodys = Check.built("k1 1;m1 0;m1 0;m1 0;m1 0;t4 0 2;t0 0 8;");
        Check.due("nobody's", nobodys.told(15), 5);
        TollDelay alike = Check.built("k1 1;m5 0;t4 0 1;t1 0 1;t1 0 1;");
        alike.seat(2);
        alike.tell(0);
        alike.rise();
        alike.seat(1);
        alike.tell(0);
        Check.due("of like ones the least sat longest", alike.told(16), 1);
        TollDelay one = Check.built("k1 1;m9 0;t4 0 1;t0 9 1;");
        one.seat(1);
        one.tell(0);
        Check.due("one minute is long enough", one.told(16), 1);
    }

    private static void toldLearn() {
        TollDelay x = Check.built("k5 1;m9 0;m9 0;m4 2;t1 0 7;");
        // 1 alone pays 1; 2 leads on to 1, but 1 is not known; so 1 and 2 pay as 0 does: the least
        Check.due("of like ones the least", x.told(17), 1);
        x.learn(1);
        Check.due("the last one", x.told(17), 2);
        x.learn(2);
        Check.due("he knows all", x.told(17), Check.NONE);
        TollDelay more = Check.built("k5 1;m9 4;m9 0;m6 0;t1 0 7;");
        Check.due("what a known one leads on to", more.told(17), 2);
        TollDelay nobody = Check.built("k5 1;m9 4;m9 0;m6 0;");
        Check.due("without travellers the least", nobody.told(17), 1);
        TollDelay gone = Check.built("k5 1;m1 0;m1 0;m60 0;t1 9 7;");
        gone.minute(60);
        Check.due("travellers count wherever they are", gone.told(17), 2);
    }

    private static void matters() {
        TollDelay x = Check.built("k1 1;m3 2;m4 4;m5 10;m6 0;m7 16;m8 64;m9 32;");
        int[][] due = {{3, 2, 14, -1}, {4, 4, 14, 2}, {5, 10, 14, 2}, {6, 0, 0, -1}, {7, 16, 16, 1}, {8, 64, 96, 2}, {9, 32, 96, 2}};
        for (int m = 0; m < due.length; m++) {
            for (int what = 0; what <= 3; what++) {
                Check.due("matter(" + m + ", " + what + ")", x.matter(m, what), due[m][what]);
            }
        }
        TollDelay ring = Check.built("k1 1;m1 2;m1 4;m1 8;m1 16;m1 32;m1 64;m1 128;m1 1;");
        Check.due("a ring of eight", ring.matter(5, 3), 8);
        Check.due("leads to all", ring.matter(5, 2), 255);
        for (int wild : Check.WILD) {
            Check.due("matter(" + wild + ", 0)", x.matter(wild, 0), Check.UNKNOWN);
            Check.due("matter(0, " + wild + ")", x.matter(0, wild), Check.OUTSIDE);
            Check.due("matter(7, " + wild + ")", x.matter(7, wild), Check.UNKNOWN);
        }
        Check.due("matter(0, 4)", x.matter(0, 4), Check.OUTSIDE);
        Check.due("matter(8, 0)", x.matter(8, 0), Check.UNKNOWN);
    }

    private static void travellers() {
        TollDelay x = Check.built(Check.RING);
        int[][] due = {{0, 3, 7, 0, 0, 45, 2}, {1, 0, 1, 0, 0, 60, 0}, {2, 2, 6, 0, 0, 50, 2}, {3, 9, 6, 0, 0, 15, 2}, {4, 0, 7, 0, 0, 60, -1}};
        for (int t = 0; t < due.length; t++) {
            for (int what = 0; what <= 6; what++) {
                Check.due("traveller(" + t + ", " + what + ")", x.traveller(t, what), due[t][what]);
            }
        }
        x.minute(15);
        Check.due("no patience left, but he waits", x.traveller(3, 5), 0);
        Check.due("he waits", x.told(12), 31);
        x.minute(1);
        Check.due("he turned back", x.told(14), 8);
        Check.due("he waited", x.traveller(3, 4), 16);
        Check.due("patience of one who waits", x.traveller(0, 5), 29);
        x.seat(0);
        Check.due("patience of one who sits", x.traveller(0, 5), 0);
        x.tell(0);
        Check.due("sat", x.traveller(0, 3), 27);
        Check.due("waited stands still", x.traveller(0, 4), 16);
        x.anew();
        Check.due("sat anew", x.traveller(0, 3), 0);
        Check.due("waited anew", x.traveller(0, 4), 0);
        TollDelay like = Check.built("k1 1;m4 0;m9 0;m9 0;t1 0 7;t2 9 7;");
        Check.due("of like favourites the least", like.traveller(0, 6), 1);
        Check.due("no favourite", like.traveller(1, 6), Check.NONE);
        TollDelay one = Check.built("k1 1;m9 0;m9 0;t0 9 2;");
        Check.due("a favourite of one minute", one.traveller(0, 6), 1);
        for (int wild : Check.WILD) {
            Check.due("traveller(" + wild + ", 0)", x.traveller(wild, 0), Check.UNKNOWN);
            Check.due("traveller(0, " + wild + ")", x.traveller(0, wild), Check.OUTSIDE);
            Check.due("traveller(5, " + wild + ")", x.traveller(5, wild), Check.UNKNOWN);
        }
        Check.due("traveller(0, 7)", x.traveller(0, 7), Check.OUTSIDE);
    }
}
