/** Promises 16 to 19: stay, talk, queue, dry. */
public final class TriedTest {
    public static void main(String[] args) {
        stays();
        talks();
        talksOfLikeRows();
        queues();
        queuesFromNow();
        dryWeeks();
        triedChangesNothing();
        Check.end("TriedTest");
    }

    private static void stays() {
        TollDelay x = Check.built(Check.RING);
        int[][] due = {{27, 17, 42}, {30, 0, 0}, {0, 8, 20}, {0, 25, 50}, {0, 0, 0}};
        for (int t = 0; t < due.length; t++) {
            for (int m = 0; m < 3; m++) {
                Check.due("stay(" + t + ", " + m + ")", x.stay(t, m), due[t][m]);
            }
        }
        TollDelay short1 = Check.built("k1 1;m5 0;m9 0;m19 7;t0 9 7;t2 9 7;t2 0 7;t3 0 7;");
        Check.due("plain: 1 at least", short1.stay(0, 0), 1);
        Check.due("plain: 9 less 9", short1.stay(0, 1), 1);
        Check.due("plain: 19 less 9", short1.stay(0, 2), 10);
        Check.due("merchant: 0 at least", short1.stay(1, 0), 0);
        Check.due("merchant: half is cut", short1.stay(2, 1), 4);
        Check.due("merchant: 9 less 9", short1.stay(1, 2), 0);
        Check.due("professor: nothing to lead on to", short1.stay(3, 1), 9);
        Check.due("professor: itself counts", short1.stay(3, 2), 34);
        for (int wild : Check.WILD) {
            Check.due("stay(" + wild + ", 0)", x.stay(wild, 0), Check.UNKNOWN);
            Check.due("stay(0, " + wild + ")", x.stay(0, wild), Check.UNKNOWN);
        }
        Check.due("stay(5, 0)", x.stay(5, 0), Check.UNKNOWN);
        Check.due("stay(0, 3)", x.stay(0, 3), Check.UNKNOWN);
        TollDelay gone = Check.built("k1 1;m5 254;t3 0 1;");
        Check.due("professor: those there are not don't count", gone.stay(0, 0), 5);
    }

    private static void talk(TollDelay x, int t, int minutes, int first, int count, int worth) {
        Check.due("talk(" + t + ", 0)", x.talk(t, 0), minutes);
        Check.due("talk(" + t + ", 1)", x.talk(t, 1), first);
        Check.due("talk(" + t + ", 2)", x.talk(t, 2), count);
        Check.due("talk(" + t + ", 3)", x.talk(t, 3), worth);
    }

    private static void talks() {
        TollDelay x = Check.built(Check.RING);
        talk(x, 0, 27, 0, 1, 4);
        talk(x, 1, 30, 0, 1, 6);
        talk(x, 2, 0, Check.NONE, 0, 0);
        x.learn(2);
        talk(x, 0, 69, 2, 2, 12);
        talk(x, 2, 20, 2, 1, 4);
        talk(x, 3, 50, 2, 1, 10);
        x.learn(1);
        talk(x, 0, 86, 0, 3, 16);
        talk(x, 1, 30, 0, 1, 6);
        talk(x, 2, 28, 1, 2, 4);
        talk(x, 3, 75, 1, 2, 14);
        talk(x, 4, 0, Check.NONE, 0, 0);
        x.anew();
        x.seat(0);
        x.tell(1);
        talk(x, 0, 86, 0, 3, 16);
        for (int wild : Check.WILD) {
            Check.due("talk(" + wild + ", 0)", x.talk(wild, 0), Check.UNKNOWN);
            Check.due("talk(0, " + wild + ")", x.talk(0, wild), Check.OUTSIDE);
            Check.due("talk(5, " + wild + ")", x.talk(5, wild), Check.UNKNOWN);
        }
        Check.due("talk(0, 4)", x.talk(0, 4), Check.OUTSIDE);
    }

    private static void talksOfLikeRows() {
        TollDelay x = Check.built("k1 1;m5 0;m10 1;m15 0;m5 2;t1 0 15;t1 0 9;t1 0 14;");
        x.learn(1);
        talk(x, 0, 15, 1, 2, 15);
        x.learn(2);
        // 1 0 is as long as 2 alone: the one of fewest
        talk(x, 0, 15, 2, 1, 15);
        x.learn(3);
        talk(x, 0, 20, 3, 3, 20);
        // he can leave 1, but it lies between 3 and 0
        talk(x, 1, 10, 3, 3, 10);
        // 2 alone is as long as 3 1
        talk(x, 2, 15, 2, 1, 15);
        TollDelay like = Check.built("k1 1;m5 2;m5 1;m10 0;t1 0 3;t1 0 0;");
        like.learn(1);
        talk(like, 0, 10, 0, 2, 10);
        talk(like, 1, 0, Check.NONE, 0, 0);
        TollDelay one = Check.built("k1 3;m9 0;m8 0;t0 9 2;");
        one.learn(1);
        talk(one, 0, 1, 1, 1, 3);
        TollDelay all = Check.built("k60 9;m60 255;m60 255;m60 255;m60 255;m60 255;m60 255;m60 255;m60 255;t3 0 255;");
        for (int m = 1; m < 8; m++) {
            talk(all, 0, 100 * m, 0, m, 100 * m / 60 * 9);
            all.learn(m);
        }
        talk(all, 0, 800, 0, 8, 117);
    }

    private static void queues() {
        TollDelay x = Check.built(Check.RING);
        Check.due("all orders are alike", x.queue(0), 10);
        Check.due("the least number", x.queue(1), 12345);
        x.learn(2);
        x.anew();
        // talks 69 30 20 50 0, patience 45 60 50 15 60: 1 and then 0 pay 6 and 12, no other order as much
        Check.due("whom to hold first", x.queue(0), 18);
        Check.due("in this order", x.queue(1), 21345);
        x.seat(1);
        Check.due("somebody sits", x.queue(0), Check.NOT);
        Check.due("outside ahead of not", x.queue(2), Check.OUTSIDE);
        x.rise();
        // 0 alone pays 12; 3 and 2 pay 10 and 4 (50 is not too long for 2)
        Check.due("without him", x.queue(0), 16);
        Check.due("2 and then 0", x.queue(1), 3145);
        for (int wild : Check.WILD) {
            Check.due("queue(" + wild + ")", x.queue(wild), Check.OUTSIDE);
        }
    }

    private static void queuesFromNow() {
        TollDelay x = Check.built("k10 1;m20 0;t1 8 1;t1 8 1;t1 4 1;");
        // patience 20 20 40: each talks 20 minutes
        Check.due("three in time", x.queue(0), 6);
        Check.due("as they come", x.queue(1), 123);
        x.minute(1);
        Check.due("now the second comes too late", x.queue(0), 4);
        Check.due("the least number of those", x.queue(1), 123);
        x.minute(20);
        Check.due("only one waits", x.queue(0), 2);
        Check.due("his figure", x.queue(1), 3);
        x.minute(20);
        Check.due("nobody waits", x.queue(0), 0);
        Check.due("no figures", x.queue(1), 0);
        TollDelay six = Check.built("k1 1;m10 0;t1 0 1;t1 2 1;t1 4 1;t1 6 1;t1 8 1;t1 9 1;");
        // patience 60 50 40 30 20 15: once the first sat, each of the others has just his minutes left
        Check.due("six", six.queue(0), 60);
        Check.due("the sixth is pressed", six.queue(1), 165432);
        TollDelay last = Check.built("k5 1;m5 0;t1 4 1;t1 5 1;t1 6 1;t1 7 1;t1 8 1;t1 9 1;");
        last.minute(15);
        // patience 25 20 15 10 5 0: the last of all orders is the only one that holds all
        Check.due("the greatest number", last.queue(1), 654321);
        Check.due("it holds all", last.queue(0), 6);
    }

    private static void dryWeeks() {
        TollDelay x = new TollDelay();
        Check.due("no evening", x.dry(0, 0), 1000000000);
        Check.due("one", x.dry(1, 37), 370000000);
        Check.due("never", x.dry(1, 0), 0);
        Check.due("always", x.dry(60, 100), 1000000000);
        Check.due("five of 33", x.dry(5, 33), 3913539);
        Check.due("five of 7", x.dry(5, 7), 1680);
        Check.due("seven of 7", x.dry(7, 7), 8);
        Check.due("nothing is left", x.dry(8, 7), 0);
        Check.due("sixty of 99", x.dry(60, 99), 547156620);
        Check.due("dry(-1, 1)", x.dry(-1, 1), Check.OUTSIDE);
        Check.due("dry(61, 1)", x.dry(61, 1), Check.OUTSIDE);
        Check.due("dry(1, -1)", x.dry(1, -1), Check.OUTSIDE);
        Check.due("dry(1, 101)", x.dry(1, 101), Check.OUTSIDE);
    }

    private static void triedChangesNothing() {
        TollDelay x = Check.built(Check.RING);
        x.learn(1);
        x.anew();
        String before = Check.seen(x);
        x.stay(0, 0);
        x.talk(0, 0);
        x.queue(1);
        x.dry(5, 5);
        x.couldBe();
        x.ask();
        x.judge();
        Check.same("tried", Check.seen(x), before);
    }
}
