/** Promises 20 to 28: stayed, couldBe, ask, write, judge, tear, seed, keep, goBack. */
public final class StayedTest {
    public static void main(String[] args) {
        stayed();
        couldBe();
        asks();
        books();
        torn();
        seeds();
        images();
        imagesWithoutBridge();
        Check.end("StayedTest");
    }

    private static void stayed() {
        TollDelay x = Check.built(Check.RING);
        Check.due("stayed(0, -1)", x.stayed(0, -1), Check.OUTSIDE);
        Check.due("stayed(0, 101)", x.stayed(0, 101), Check.OUTSIDE);
        for (int wild : Check.WILD) {
            Check.due("stayed(" + wild + ", 101)", x.stayed(wild, 101), Check.UNKNOWN);
        }
        Check.due("stayed(5, 0)", x.stayed(5, 0), Check.UNKNOWN);
        Check.due("none yet", x.told(18), 0);
        Check.due("v 0", x.stayed(4, 0), 1);
        Check.due("v 100", x.stayed(4, 100), 2);
        for (int i = 3; i <= 6; i++) {
            Check.due("more", x.stayed(4, 0), i);
        }
        Check.due("full", x.stayed(4, 0), Check.FULL);
        Check.due("outside ahead of full", x.stayed(4, 101), Check.OUTSIDE);
        Check.due("unknown ahead of full", x.stayed(5, 0), Check.UNKNOWN);
        Check.due("six", x.told(18), 6);
    }

    private static void couldBe() {
        TollDelay x = Check.built(Check.RING);
        Check.due("all, known or not", x.couldBe(), 7);
        x.stayed(1, 0);
        Check.due("what 1 can leave", x.couldBe(), 6);
        x.stayed(4, 0);
        Check.due("the deaf one says nothing", x.couldBe(), 6);
        x.stayed(2, 20);
        Check.due("that is 2", x.couldBe(), 4);
        x.stayed(0, 17);
        Check.due("that cannot be", x.couldBe(), 0);
    }

    private static void asks() {
        TollDelay x = Check.built(Check.RING);
        Check.due("0 parts all", x.ask(), 0);
        x.stayed(2, 20);
        Check.due("one is left", x.ask(), Check.NONE);
        x.stayed(2, 21);
        Check.due("none is left", x.ask(), Check.NONE);
        x.tear();
        x.stayed(1, 30);
        Check.due("0 is left", x.couldBe(), 1);
        Check.due("nobody to ask about 0", x.ask(), Check.NONE);
        TollDelay parts = Check.built("k1 1;m1 0;m2 0;m3 0;m4 0;t4 0 15;t1 0 1;t1 0 6;t1 0 12;");
        // greatest parts: 4, then 3, then 2 and 2
        Check.due("the least of the like best", parts.ask(), 2);
        parts.stayed(1, 0);
        // of 1, 2, 3: 3, then 3, then 1, then 1
        Check.due("2 again", parts.ask(), 2);
        parts.stayed(2, 0);
        Check.due("one", parts.couldBe(), 8);
        Check.due("nobody to ask", parts.ask(), Check.NONE);
        TollDelay deaf = Check.built("k1 1;m1 0;m2 0;t4 0 3;t1 0 0;");
        Check.due("none parts them", deaf.ask(), Check.NONE);
        TollDelay gone = Check.built("k1 1;m1 0;m2 0;t4 0 3;t1 9 3;");
        gone.minute(60);
        Check.due("whom one asks need not wait", gone.ask(), 1);
    }

    private static void books() {
        TollDelay x = Check.built(Check.RING);
        Check.due("write(0, -1)", x.write(0, -1), Check.OUTSIDE);
        Check.due("write(0, 10000)", x.write(0, 10000), Check.OUTSIDE);
        for (int wild : Check.WILD) {
            Check.due("write(" + wild + ", -1)", x.write(wild, -1), Check.UNKNOWN);
        }
        Check.due("write(5, 0)", x.write(5, 0), Check.UNKNOWN);
        Check.due("no entry is wrong", x.judge(), Check.NONE);
        Check.due("first", x.write(1, 0), 1);
        Check.due("second", x.write(0, 27), 2);
        Check.due("he did not sit yet", x.judge(), 1);
        x.seat(0);
        x.tell(0);
        Check.due("now he does", x.judge(), Check.NONE);
        Check.due("third", x.write(2, 9999), 3);
        Check.due("nobody sat so long", x.judge(), 2);
        x.anew();
        Check.due("a new evening", x.judge(), 1);
        x.seat(1);
        x.tell(0);
        Check.due("now the first is wrong", x.judge(), 0);
        for (int i = 4; i <= 20; i++) {
            Check.due("more", x.write(3, 0), i);
        }
        Check.due("full", x.write(3, 0), Check.FULL);
        Check.due("outside ahead of full", x.write(3, 10000), Check.OUTSIDE);
        Check.due("entries", x.told(19), 20);
    }

    private static void torn() {
        TollDelay x = Check.built(Check.RING);
        Check.due("nothing to tear", x.tear(), 0);
        x.stayed(0, 1);
        x.stayed(0, 2);
        x.write(0, 1);
        Check.due("three", x.tear(), 3);
        Check.due("nothing stayed", x.told(18), 0);
        Check.due("no book", x.told(19), 0);
        Check.due("nothing is wrong", x.judge(), Check.NONE);
        Check.due("all could be", x.couldBe(), 7);
        Check.due("again", x.tear(), 0);
    }

    private static void seeds() {
        TollDelay x = new TollDelay();
        Check.due("0 at first", x.seed(2147483647), 0);
        Check.due("the greatest", x.seed(0), 2147483647);
        Check.due("seed(-1)", x.seed(-1), Check.OUTSIDE);
        Check.due("seed(least)", x.seed(Integer.MIN_VALUE), Check.OUTSIDE);
        Check.due("unchanged", x.seed(7), 0);
        TollDelay one = Check.built("k1 1;t0 0 0;");
        one.seed(2147483647);
        one.drift(1);
        // 2147483647 is -1 left over by 2 to the 31: 12345 less 1103515245
        Check.due("one draw", one.seed(0), (int) ((1L << 31) + 12345L - 1103515245L));
    }

    private static void images() {
        TollDelay x = Check.built(Check.RING);
        for (int wild : Check.WILD) {
            Check.due("keep(" + wild + ")", x.keep(wild), Check.UNKNOWN);
            Check.due("goBack(" + wild + ")", x.goBack(wild), Check.UNKNOWN);
        }
        Check.due("keep(2)", x.keep(2), Check.UNKNOWN);
        Check.due("goBack(2)", x.goBack(2), Check.UNKNOWN);
        Check.due("goBack(0), not kept", x.goBack(0), Check.NOT);
        x.seed(11);
        x.seat(0);
        x.tell(0);
        Check.due("keep(0)", x.keep(0), 1);
        Check.due("nothing can be undone", x.told(20), 0);
        String first = Check.seen(x);
        x.seed(12);
        x.rise();
        x.learn(2);
        x.anew();
        Check.due("keep(1)", x.keep(1), 1);
        String second = Check.seen(x);
        x.minute(30);
        x.drift(5);
        x.goBack(0);
        Check.same("image 0", Check.seen(x), first);
        Check.due("the seed of 0", x.seed(99), 11);
        Check.due("goBack(1)", x.goBack(1), 1);
        Check.same("image 1", Check.seen(x), second);
        Check.due("the seed of 1", x.seed(99), 12);
        x.minute(1);
        x.undo(1);
        Check.same("undone back to the image", Check.seen(x), second);
        Check.due("goBack(0) again", x.goBack(0), 1);
        Check.same("image 0 again", Check.seen(x), first);
        x.rise();
        x.keep(0);
        x.minute(9);
        x.goBack(0);
        Check.due("kept anew", x.told(13), 1);
        x.stayed(0, 27);
        x.write(0, 27);
        x.goBack(1);
        Check.due("what stayed is in no image", x.told(18), 1);
        Check.due("nor is the book", x.told(19), 1);
    }

    private static void imagesWithoutBridge() {
        TollDelay x = new TollDelay();
        x.seed(3);
        Check.due("keep without a bridge", x.keep(0), 1);
        x.seed(4);
        Check.due("goBack without a bridge", x.goBack(0), 1);
        Check.due("its seed", x.seed(0), 3);
        Check.due("the other was not kept", x.goBack(1), Check.NOT);
    }
}
