/** Promises 8 to 15: seat, tell, rise, learn, minute, anew, drift, undo. */
public final class DeedsTest {
    public static void main(String[] args) {
        seats();
        tells();
        tellAgainstTheLead();
        rises();
        professors();
        learns();
        minutes();
        evenings();
        drifts();
        driftsByHand();
        undone();
        undoneAtMost();
        refusedChangesNothing();
        farOn();
        Check.end("DeedsTest");
    }

    private static void seats() {
        TollDelay x = Check.built(Check.RING);
        x.minute(7);
        Check.due("seat", x.seat(2), 7);
        Check.due("he sits", x.told(9), 2);
        Check.due("he waits no more", x.told(12), 27);
        Check.due("he did not pass", x.told(13), 0);
        Check.due("seat beside him", x.seat(0), Check.NOT);
        Check.due("seat himself", x.seat(2), Check.NOT);
        x.minute(9);
        Check.due("who sits does not wait longer", x.traveller(2, 4), 7);
        Check.due("who sits without a matter sat no minute", x.traveller(2, 3), 0);
        x.rise();
        Check.due("seat who passed", x.seat(2), Check.NOT);
        Check.due("seat who turned back", x.seat(3), Check.NOT);
        Check.due("seat another", x.seat(4), 16);
        for (int wild : Check.WILD) {
            Check.due("seat(" + wild + ") while one sits", x.seat(wild), Check.UNKNOWN);
        }
        Check.due("seat(5)", x.seat(5), Check.UNKNOWN);
    }

    private static void tells() {
        TollDelay x = Check.built(Check.RING);
        Check.due("tell nobody", x.tell(0), Check.NOT);
        x.seat(0);
        Check.due("tell what he does not know", x.tell(1), Check.NOT);
        Check.due("tell", x.tell(0), 27);
        Check.due("minutes passed", x.told(5), 27);
        Check.due("told him", x.told(10), 1);
        Check.due("told last", x.told(11), 0);
        Check.due("the others waited", x.traveller(1, 4), 27);
        Check.due("the hurried turned back", x.told(14), 8);
        Check.due("at his first minute too many", x.traveller(3, 4), 16);
        Check.due("tell it again", x.tell(0), Check.NOT);
        x.learn(1);
        Check.due("tell what it leads on to", x.tell(1), 17);
        Check.due("told both", x.told(10), 3);
        Check.due("last", x.told(11), 1);
        Check.due("sat", x.traveller(0, 3), 44);
        Check.due("learning is no sitting", x.told(5), 104);
        x.anew();
        x.seat(1);
        Check.due("the first may be any, he can leave it", x.tell(1), 0);
        Check.due("it was told all the same", x.told(10), 2);
        for (int wild : Check.WILD) {
            Check.due("tell(" + wild + ")", x.tell(wild), Check.UNKNOWN);
        }
        Check.due("tell(3)", x.tell(3), Check.UNKNOWN);
        x.rise();
        Check.due("tell(3) to nobody", x.tell(3), Check.UNKNOWN);
    }

    private static void tellAgainstTheLead() {
        TollDelay x = Check.built(Check.RING);
        x.learn(1);
        x.learn(2);
        x.anew();
        x.seat(0);
        x.tell(0);
        Check.due("0 does not lead on to 2", x.tell(2), Check.NONE);
        Check.due("nobody sits", x.told(9), Check.NONE);
        Check.due("he passed", x.told(13), 1);
        Check.due("he is paid for", x.told(7), 4);
        Check.due("no minute passed for it", x.told(5), 147);
        Check.due("he sat no longer", x.traveller(0, 3), 27);
        Check.due("nothing is told", x.told(10), 0);
        Check.due("nothing was last", x.told(11), Check.NONE);
        x.anew();
        x.seat(2);
        x.tell(1);
        Check.due("1 leads on to 2", x.tell(2), 20);
        Check.due("2 leads on to 0", x.tell(0), 0);
        Check.due("0 leads on to 1, but that was told", x.tell(1), Check.NOT);
    }

    private static void rises() {
        TollDelay x = Check.built("k10 3;m10 2;m9 1;t1 0 1;t1 0 2;t1 0 3;");
        Check.due("rise of nobody", x.rise(), Check.NOT);
        x.learn(1);
        x.anew();
        x.seat(1);
        x.tell(1);
        Check.due("nine minutes are no quarter", x.rise(), 0);
        x.seat(0);
        x.tell(0);
        Check.due("a whole quarter", x.rise(), 3);
        x.seat(2);
        x.tell(0);
        x.tell(1);
        Check.due("nineteen minutes are one", x.rise(), 3);
        Check.due("paid in all", x.told(7), 6);
        Check.due("all passed", x.told(13), 7);
        Check.due("rise again", x.rise(), Check.NOT);
        Check.due("paid stays", x.anew() == 2 ? x.told(7) : -7, 6);
        x.seat(0);
        Check.due("rise at once", x.rise(), 0);
    }

    private static void professors() {
        TollDelay x = Check.built("k1 1;m1 0;m1 0;m1 0;m1 0;t3 0 12;t1 0 15;");
        x.seat(0);
        Check.due("a professor rises", x.rise(), 0);
        Check.due("he leaves the least that he cannot leave", x.told(8), 5);
        Check.due("no minute passed", x.told(5), 0);
        x.seat(1);
        x.rise();
        Check.due("others leave nothing", x.told(8), 5);
        x.anew();
        x.seat(0);
        x.tell(0);
        Check.due("he rises at what does not follow", x.tell(2), Check.NONE);
        Check.due("and leaves the next", x.told(8), 13);
        x.anew();
        Check.due("what he knows stays", x.told(8), 13);
        x.seat(0);
        x.anew();
        x.seat(0);
        x.rise();
        Check.due("nothing is left to leave", x.told(8), 13);
        Check.due("undone", x.undo(4), 0);
    }

    private static void learns() {
        TollDelay x = Check.built(Check.RING);
        Check.due("learn what he knows", x.learn(0), Check.NOT);
        Check.due("learn", x.learn(2), 2);
        Check.due("known", x.told(8), 5);
        Check.due("an hour passed", x.told(5), 60);
        Check.due("who waits 60 waits on", x.told(12), 18);
        Check.due("the others turned back", x.told(14), 13);
        Check.due("turned at 46", x.traveller(0, 4), 46);
        Check.due("learn again", x.learn(2), Check.NOT);
        Check.due("learn the last", x.learn(1), 3);
        Check.due("all turned back", x.told(14), 31);
        for (int wild : Check.WILD) {
            Check.due("learn(" + wild + ")", x.learn(wild), Check.UNKNOWN);
        }
        Check.due("learn(3)", x.learn(3), Check.UNKNOWN);
    }

    private static void minutes() {
        TollDelay x = Check.built("k1 1;t0 0 0;t0 9 0;");
        Check.due("minute(0)", x.minute(0), Check.OUTSIDE);
        Check.due("minute(61)", x.minute(61), Check.OUTSIDE);
        for (int wild : Check.WILD) {
            Check.due("minute(" + wild + ")", x.minute(wild), Check.OUTSIDE);
        }
        Check.due("minute(1)", x.minute(1), 1);
        Check.due("minute(60)", x.minute(60), 61);
        Check.due("all turned back", x.told(14), 3);
        Check.due("at 61", x.traveller(0, 4), 61);
        Check.due("at 16", x.traveller(1, 4), 16);
        Check.due("on", x.minute(5), 66);
        Check.due("who turned back waits no more", x.traveller(0, 4), 61);
        TollDelay none = new TollDelay();
        Check.due("outside ahead of not", none.minute(0), Check.OUTSIDE);
        Check.due("no bridge", none.minute(1), Check.NOT);
        int clock = 66;
        for (int i = 0; i < 400; i++) {
            clock = x.minute(60);
        }
        Check.due("a long clock", clock, 24066);
    }

    private static void evenings() {
        TollDelay x = Check.built(Check.RING);
        x.minute(20);
        x.seat(0);
        x.tell(0);
        Check.due("anew", x.anew(), 1);
        Check.due("who sat is not paid for", x.told(7), 0);
        Check.due("all wait", x.told(12), 31);
        Check.due("nobody passed", x.told(13), 0);
        Check.due("nobody turned back", x.told(14), 0);
        Check.due("nobody sits", x.told(9), Check.NONE);
        Check.due("nothing told", x.told(10), 0);
        Check.due("the clock goes on", x.told(5), 47);
        Check.due("nobody sat", x.told(16), Check.NONE);
        x.seat(4);
        x.rise();
        Check.due("again", x.anew(), 2);
        Check.due("who passed waits again", x.told(12), 31);
        Check.due("and did not pass", x.told(13), 0);
        Check.due("evenings", x.told(6), 2);
        Check.due("no bridge", new TollDelay().anew(), Check.NOT);
        x.seat(3);
        x.anew();
        Check.due("a professor who does not rise leaves nothing", x.told(8), 1);
    }

    private static void drifts() {
        TollDelay x = Check.built("k1 1;");
        Check.due("drift(0)", x.drift(0), Check.OUTSIDE);
        Check.due("drift(31)", x.drift(31), Check.OUTSIDE);
        for (int wild : Check.WILD) {
            Check.due("drift(" + wild + ")", x.drift(wild), Check.OUTSIDE);
        }
        Check.due("nobody to draw", x.drift(30), 30);
        Check.due("no draw was made", x.seed(1), 0);
        Check.due("each time is a deed", x.told(20), 30);
        Check.due("no bridge", new TollDelay().drift(1), Check.NOT);
        Check.due("outside ahead of not", new TollDelay().drift(0), Check.OUTSIDE);
    }

    /** Follows each draw with the document's rule beside the object. */
    private static void driftsByHand() {
        TollDelay x = Check.built("k2 5;m6 1;t1 0 1;t0 0 0;");
        long seed = 0;
        x.seed(0);
        int clock = 0;
        boolean sits = false, heard = false;
        boolean[] waits = {true, true};
        int who = 0, paid = 0, sat = 0;
        for (int time = 0; time < 40; time++) {
            seed = (seed * 1103515245L + 12345L) % (1L << 31);
            if (!sits) {
                int t = (int) (seed / 65536 % 2);
                if (waits[t]) {
                    sits = true;
                    who = t;
                    waits[t] = false;
                    heard = false;
                    sat = 0;
                }
            } else if (seed / 65536 % 4 == 0) {
                sits = false;
                paid += sat / 2 * 5;
            } else {
                seed = (seed * 1103515245L + 12345L) % (1L << 31);
                if (!heard) {
                    heard = true;
                    sat = who == 0 ? 6 : 0;
                    clock += sat;
                }
            }
            clock++;
            Check.due("drift by hand, time " + time, x.drift(1), clock);
            Check.due("who sits, time " + time, x.told(9), sits ? who : Check.NONE);
            Check.due("paid, time " + time, x.told(7), paid);
            if (!waits[0] && !waits[1] && !sits) {
                x.anew();
                waits[0] = true;
                waits[1] = true;
            }
        }
        Check.due("somebody was paid for", paid > 0 ? 1 : 0, 1);
        Check.due("the seed", x.seed(0), (int) seed);
        TollDelay mute = Check.built("k1 1;t0 0 0;");
        mute.seat(0);
        mute.seed(0);
        // the first draw is 0 (12345 / 65536), so he rises; seated anew, the next does not
        Check.due("drift without matters", mute.drift(1), 1);
        Check.due("he rose on 0", mute.told(13), 1);
        mute.anew();
        mute.seat(0);
        mute.seed(654583775);
        mute.drift(1);
        // that draw is 22117, so not 0 left over by 4
        Check.due("without matters only one draw", mute.seed(0), 1449466924);
        Check.due("he sits on", mute.told(9), 0);
    }

    private static void undone() {
        TollDelay x = Check.built(Check.RING);
        String[] seen = new String[9];
        int deeds = 0;
        seen[deeds++] = Check.seen(x);
        x.seat(0);
        seen[deeds++] = Check.seen(x);
        x.tell(0);
        seen[deeds++] = Check.seen(x);
        x.rise();
        seen[deeds++] = Check.seen(x);
        x.learn(1);
        seen[deeds++] = Check.seen(x);
        x.minute(9);
        seen[deeds++] = Check.seen(x);
        x.anew();
        seen[deeds++] = Check.seen(x);
        x.drift(1);
        seen[deeds++] = Check.seen(x);
        x.drift(1);
        seen[deeds] = Check.seen(x);
        Check.due("eight deeds", x.told(20), 8);
        Check.due("too many", x.undo(9), Check.NOT);
        Check.due("undo(0)", x.undo(0), Check.OUTSIDE);
        Check.due("undo(31)", x.undo(31), Check.OUTSIDE);
        for (int wild : Check.WILD) {
            Check.due("undo(" + wild + ")", x.undo(wild), Check.OUTSIDE);
        }
        Check.same("nothing is undone yet", Check.seen(x), seen[8]);
        for (int back = 7; back >= 0; back--) {
            x.undo(1);
            Check.same("back at " + back, Check.seen(x), seen[back]);
        }
        Check.due("nothing is left", x.undo(1), Check.NOT);
        seatTellRise(x);
        Check.due("three at once", x.undo(3), 0);
        Check.same("three at once", Check.seen(x), seen[0]);
        x.seed(5);
        x.drift(2);
        x.undo(2);
        Check.due("the seed stays", x.seed(0) == 5 ? 1 : 0, 0);
        x.stayed(0, 27);
        x.write(0, 0);
        x.minute(1);
        x.undo(1);
        Check.due("what stayed stays", x.told(18), 1);
        Check.due("the book stays", x.told(19), 1);
    }

    private static void seatTellRise(TollDelay x) {
        x.seat(0);
        x.tell(0);
        x.rise();
    }

    private static void undoneAtMost() {
        TollDelay x = Check.built(Check.RING);
        for (int i = 1; i <= 45; i++) {
            x.minute(1);
            Check.due("kept", x.told(20), Math.min(i, 30));
        }
        Check.due("thirty are undone", x.undo(30), 15);
        Check.due("no more", x.undo(1), Check.NOT);
        x.minute(3);
        x.minute(4);
        Check.due("two more", x.told(20), 2);
        Check.due("one of them", x.undo(1), 18);
        Check.due("the other", x.undo(1), 15);
        x.drift(20);
        x.drift(20);
        Check.due("of forty thirty", x.told(20), 30);
        x.keep(0);
        Check.due("none behind keep", x.told(20), 0);
        x.minute(1);
        x.goBack(0);
        Check.due("none behind goBack", x.undo(1), Check.NOT);
    }

    private static void refusedChangesNothing() {
        TollDelay x = Check.built(Check.RING);
        x.seat(1);
        x.tell(0);
        String before = Check.seen(x);
        x.seat(0);
        x.seat(9);
        x.tell(0);
        x.tell(1);
        x.tell(9);
        x.learn(0);
        x.learn(9);
        x.minute(0);
        x.drift(0);
        x.undo(5);
        x.undo(0);
        x.stayed(0, 101);
        x.write(0, 10000);
        x.seed(-1);
        x.keep(2);
        x.goBack(0);
        x.goBack(2);
        x.queue(0);
        x.feed(256);
        Check.same("refused calls", Check.seen(x), before);
        Check.due("the seed", x.seed(0), 0);
    }

    /** The greatest counts lie beyond the 512 calls that are promised; this class goes on as before, so they can be seen. */
    private static void farOn() {
        TollDelay x = Check.built("k1 9;m60 3;m60 3;t3 0 3;");
        for (int i = 0; i < 15000; i++) {
            x.minute(60);
        }
        Check.due("the clock", x.told(5), 900000);
        Check.due("not yet full", x.drift(1), 900001);
        Check.due("minute full", x.minute(1), Check.FULL);
        Check.due("drift full", x.drift(1), Check.FULL);
        Check.due("outside ahead of full", x.minute(0), Check.OUTSIDE);
        Check.due("undone", x.undo(1), 900000);
        Check.due("minute to it", x.minute(1), 900001);
        for (int i = 0; i < 8999; i++) {
            x.anew();
        }
        Check.due("the last evening", x.anew(), 9000);
        Check.due("anew full", x.anew(), Check.FULL);
        TollDelay rich = Check.built("k1 9;m60 3;m60 3;t3 0 3;");
        rich.learn(1);
        for (int i = 0; i < 793; i++) {
            rich.anew();
            rich.seat(0);
            rich.tell(0);
            rich.tell(1);
            rich.rise();
        }
        // each time two stays of 70, so 1260 pence
        Check.due("paid", rich.told(7), 999180);
        rich.anew();
        rich.seat(0);
        rich.tell(0);
        rich.tell(1);
        Check.due("what can still be paid", rich.rise(), 819);
        Check.due("paid at most", rich.told(7), 999999);
    }
}
