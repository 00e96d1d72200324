/** The edges of the document's section 2 and of promises 8 to 15, sentence by sentence. */
public final class EdgesOfDeedsTest {
    /** By this seed a lone traveller sits, hears all of eight matters that lead everywhere, and rises, in ten times. */
    private static final int LUCKY = 9857;

    public static void main(String[] args) {
        knownAtFirst();
        oneSitsAtMost();
        whoWaitsIsSeated();
        patienceByHurry();
        patienceWhileTold();
        firstMatterIsAny();
        whatCannotBeTold();
        allMattersTold();
        wholeQuarters();
        paidAtMost();
        nothingIsPaidBeyond();
        whoCannotRise();
        whatProfessorsLeave();
        learning();
        minutes();
        clockAtMost();
        evenings();
        eveningsAtMost();
        drifting();
        drawsWithoutTravellers();
        drawsWithoutMatters();
        drawsThatCannotBe();
        seedWrapsAround();
        undoing();
        undoneAtMost();
        undoneSince();
        lastPromisedCall();
        Check.end("EdgesOfDeedsTest");
    }

    /** "The KEEPER KNOWS MATTER 0 alone at first"; promise 3: "if there is one". */
    private static void knownAtFirst() {
        Edge.of("k1 1;").due("told 8", 0).due("told 17", Edge.NONE);
        Edge.of("k1 1;m1 0;").due("told 8", 1).due("told 17", Edge.NONE);
        Edge.of("k1 1;m1 0;m1 0;").due("told 8", 1).due("told 17", 1);
    }

    /** "SITS (one at most)"; promise 8: "NOT: somebody SITS". */
    private static void oneSitsAtMost() {
        Edge edge = Edges.storyOpen().due("told 9", 1);
        edge.refusedFor("seat ?", Edge.NOT, 0, 1, 2, 3, 4);
        edge.refusedFor("seat ?", Edge.UNKNOWN, Edges.NEVER).refused("seat 5", Edge.UNKNOWN);
        edge.does("rise").due("seat 0", 32).due("told 9", 0).due("told 12", 20).refused("seat 2", Edge.NOT);
    }

    /** "a TRAVELLER who WAITS SITS"; promise 8: "NOT: .. he does not WAIT". */
    private static void whoWaitsIsSeated() {
        Edge risen = Edges.storyRisen();
        risen.due("told 13", 2).due("told 14", 8).refused("seat 1", Edge.NOT).refused("seat 3", Edge.NOT);
        risen.refusedFor("seat ?", Edge.UNKNOWN, Edges.NEVER).refused("seat 5", Edge.UNKNOWN).due("seat 4", 32);
        Edge.of("k1 1;").refused("seat 0", Edge.UNKNOWN);
        Edge.of("k1 1;t0 0 0;").refused("seat 1", Edge.UNKNOWN).due("seat 0", 0);
        Edge.of("k1 1;t0 0 0;t0 0 0;t0 0 0;t0 0 0;t0 0 0;t0 0 0;").refused("seat 6", Edge.UNKNOWN).due("seat 5", 0);
    }

    /** "who WAITED more than 60 less 5 times HURRY TURNED BACK (and waits no more)". */
    private static void patienceByHurry() {
        for (int hurry = 0; hurry <= 9; hurry++) {
            int most = 60 - 5 * hurry;
            String text = "k1 1;t0 " + hurry + " 0;";
            Edge.of(text).due("traveller 0 5", most).due("minute " + (most - 1), most - 1).due("traveller 0 5", 1)
                .due("minute 1", most).due("traveller 0 5", 0).due("traveller 0 4", most).due("told 12", 1).due("told 14", 0)
                .due("seat 0", most);
            Edge turned = Edge.of(text).does("minute " + most).due("minute 1", most + 1).due("told 12", 0).due("told 14", 1)
                .due("traveller 0 4", most + 1).due("traveller 0 5", 0).refused("seat 0", Edge.NOT);
            turned.due("minute 60", most + 61).due("traveller 0 4", most + 1).due("told 14", 1);
            if (most < 60) {
                Edge.of(text).due("minute 60", 60).due("traveller 0 4", most + 1).due("told 14", 1);
            }
        }
    }

    /** The MINUTES of a STAY pass for those who WAIT as any others do. */
    private static void patienceWhileTold() {
        Edge.of("k1 1;m15 0;t1 0 1;t0 9 0;").does("seat 0").due("tell 0", 15).due("told 12", 2).due("traveller 1 5", 0);
        Edge.of("k1 1;m16 0;t1 0 1;t0 9 0;").does("seat 0").due("tell 0", 16).due("told 12", 0).due("told 14", 2);
        Edge.of("k1 1;m60 0;t1 0 1;t0 0 0;").does("seat 0").due("tell 0", 60).due("told 12", 2).due("traveller 1 4", 60);
        Edge.of("k1 1;m59 1;t3 0 1;t0 0 0;").does("seat 0").due("tell 0", 64).due("told 14", 2).due("traveller 1 4", 61);
        // who sits waits no more, however long it lasts
        Edge.of("k1 1;m60 0;t1 9 1;").does("minute 15", "seat 0", "minute 60").due("told 9", 0).due("traveller 0 4", 15).due("rise", 0);
    }

    /** "if it is the first, or the one TOLD last leads on to it .. else he RISES at once". */
    private static void firstMatterIsAny() {
        String text = "k1 1;m5 2;m6 1;m7 0;t1 0 7;";
        Edge.of(text).does("learn 2", "anew", "seat 0").due("tell 2", 7).due("told 11", 2).due("tell 0", Edge.NONE)
            .due("told 9", Edge.NONE).due("told 7", 7).due("told 13", 1).due("traveller 0 3", 7).due("told 5", 67);
        Edge.of(text).does("learn 1", "anew", "seat 0").due("tell 0", 5).due("tell 1", 6).due("told 10", 3).due("told 11", 1);
        Edge.of(text).does("learn 2", "anew", "seat 0").due("tell 0", 5).due("tell 2", Edge.NONE).due("told 7", 5).due("told 10", 0);
        // only the latest counts: 0 leads on to 1, but 1 was told behind it
        Edge.of("k1 1;m5 6;m6 0;m7 0;t1 0 7;").does("learn 1", "learn 2", "anew", "seat 0", "tell 0").due("tell 1", 6)
            .due("tell 2", Edge.NONE);
        // a new one who sits hears his first again
        Edge.of("k1 1;m5 0;t1 0 1;t1 0 1;").does("seat 0").due("tell 0", 5).does("rise", "seat 1").due("tell 0", 5);
    }

    /** Promise 9: "UNKNOWN, NOT: nobody SITS, not KNOWN, was TOLD him". */
    private static void whatCannotBeTold() {
        Edge edge = Edges.storyOpen();
        edge.refused("tell 0", Edge.NOT).refused("tell 1", Edge.NOT);
        edge.refusedFor("tell ?", Edge.UNKNOWN, Edges.NEVER).refused("tell 3", Edge.UNKNOWN);
        Edge risen = Edges.storyRisen();
        risen.refusedFor("tell ?", Edge.NOT, 0, 1, 2).refusedFor("tell ?", Edge.UNKNOWN, Edges.NEVER).refused("tell 3", Edge.UNKNOWN);
        Edge.of("k1 1;t0 0 0;").does("seat 0").refused("tell 0", Edge.UNKNOWN);
        // one that he can leave was told all the same
        Edge.of("k1 1;m9 1;t1 0 0;").does("seat 0").due("tell 0", 0).due("told 10", 1).refused("tell 0", Edge.NOT);
    }

    private static void allMattersTold() {
        Edge edge = Edge.of(everywhere("t1 0 255;"));
        learnAll(edge).does("anew", "seat 0");
        for (int m = 7; m >= 0; m--) {
            edge.due("tell " + m, 60).due("told 11", m);
        }
        edge.due("told 10", 255).due("traveller 0 3", 480).refusedFor("tell ?", Edge.NOT, 0, 1, 2, 3, 4, 5, 6, 7);
        edge.refused("tell 8", Edge.UNKNOWN).due("rise", 4320);
    }

    private static String everywhere(String travellers) {
        return "k1 9;" + "m60 255;".repeat(8) + travellers;
    }

    private static Edge learnAll(Edge edge) {
        for (int m = 1; m <= 7; m++) {
            edge.due("learn " + m, m + 1);
        }
        return edge;
    }

    /** "the KEEPER is PAID P for each whole QUARTER that he SAT". */
    private static void wholeQuarters() {
        int[][] paid = {{9, 0}, {10, 3}, {11, 3}, {19, 3}, {20, 6}, {29, 6}, {30, 9}, {60, 18}};
        for (int[] row : paid) {
            Edge.of("k10 3;m" + row[0] + " 0;t1 0 1;").does("seat 0").due("tell 0", row[0]).due("rise", row[1]).due("told 7", row[1]);
        }
        Edge.of("k60 9;m59 0;t1 0 1;").does("seat 0", "tell 0").due("rise", 0);
        Edge.of("k60 9;m60 0;t1 0 1;").does("seat 0", "tell 0").due("rise", 9);
        Edge.of("k1 1;m1 0;t1 0 1;").does("seat 0").due("rise", 0).due("told 7", 0);
        Edge.of("k1 1;m1 0;t1 0 1;").does("seat 0", "tell 0").due("rise", 1).due("told 7", 1);
        // quarters of all that he sat, not of each matter
        Edge.of("k10 3;m5 2;m5 0;t1 0 3;").does("learn 1", "anew", "seat 0", "tell 0", "tell 1").due("rise", 3);
        // but not of what two sat together
        Edge.of("k10 3;m5 0;t1 0 1;t1 0 1;").does("seat 0", "tell 0").due("rise", 0).does("seat 1", "tell 0").due("rise", 0);
    }

    /** One professor who hears everything 138 times: 7200 pence each. */
    private static Edge rich() {
        Edge edge = learnAll(Edge.of(everywhere("t3 0 255;"))).does("anew");
        return edge.times(138, "seed " + LUCKY, "drift 10", "anew");
    }

    /** "(999999 at most in all)": within the promised calls it is reached by draws alone. */
    private static void paidAtMost() {
        Edge edge = rich().due("told 7", 993600).does("seed " + LUCKY, "drift 9");
        edge.due("rise", 6399).due("told 7", 999999).does("undo 1").due("told 7", 993600);
        Edge drawn = rich().does("seed " + LUCKY, "drift 10").due("told 7", 999999);
        drawn.beyondPromised().does("undo 1").due("told 7", 993600).refused("undo 31", Edge.OUTSIDE);
    }

    /** Just so many, and then nothing more: 1080 stays of 100 and 61 of 51 MINUTES, beyond the promised calls. */
    private static void nothingIsPaidBeyond() {
        Edge edge = learnAll(Edge.of(everywhere("t3 0 255;t0 9 255;"))).beyondPromised();
        String[] all = {"tell 0", "tell 1", "tell 2", "tell 3", "tell 4", "tell 5", "tell 6", "tell 7"};
        for (int i = 0; i < 135; i++) {
            edge.does("anew", "seat 0").does(all).due("rise", 7200);
        }
        for (int i = 0; i < 7; i++) {
            edge.does("anew", "seat 1").does(all).due("rise", 3672);
        }
        edge.does("anew", "seat 1", "tell 0", "tell 1", "tell 2", "tell 3").due("rise", 1836).due("told 7", 999540);
        edge.due("undo 1", edge.now("told 5")).does("tell 4").due("rise", 2295).due("told 7", 999999);
        edge.does("anew", "seat 1", "tell 0").due("rise", 0).due("told 7", 999999).due("told 13", 2).due("traveller 1 3", 51);
        edge.due("undo 6", edge.now("told 5") - 102).does("tell 4", "tell 5").due("rise", 2295).due("told 7", 999999);
        edge.due("talk 0 3", 7200).does("anew", "seat 0").due("tell 0", 100).due("told 7", 999999).due("rise", 0);
    }

    /** Promise 10: "NOT: nobody SITS". */
    private static void whoCannotRise() {
        Edges.storyRisen().refused("rise", Edge.NOT);
        Edge.of("k1 1;").refused("rise", Edge.NOT);
        Edge.of("k1 1;t0 0 0;").refused("rise", Edge.NOT).does("seat 0").due("rise", 0).refused("rise", Edge.NOT);
        Edge.of("k1 1;t0 0 0;").does("seat 0", "anew").refused("rise", Edge.NOT);
    }

    /** "leaves the KEEPER the least MATTER that he CANNOT leave and the KEEPER does not KNOW". */
    private static void whatProfessorsLeave() {
        Edge edge = Edge.of("k1 1;m1 0;m1 0;m1 0;m1 0;m1 0;m1 0;m1 0;m1 0;t3 0 133;t3 0 0;t1 0 255;");
        edge.does("seat 0", "rise").due("told 8", 5).does("seat 1", "rise").due("told 8", 5).does("seat 2", "rise").due("told 8", 5);
        edge.does("anew", "seat 0", "rise").due("told 8", 133).does("anew", "seat 0", "rise").due("told 8", 133);
        edge.due("told 20", 12).due("undo 3", 0).due("told 8", 133).due("undo 3", 0).due("told 8", 5);
        Edge.of("k1 1;t3 0 255;").does("seat 0").due("rise", 0).due("told 8", 0);
        Edge.of("k1 1;m1 0;t3 0 255;").does("seat 0").due("rise", 0).due("told 8", 1);
        // he leaves it too when he rises at what does not follow
        Edge.of("k1 1;m1 0;m1 0;m1 0;t3 0 4;").does("learn 1", "anew", "seat 0", "tell 0").due("tell 1", Edge.NONE).due("told 8", 7);
    }

    /** "LEARNT: the KEEPER KNOWS a MATTER more (60 MINUTES pass)"; promise 11: "UNKNOWN, NOT: he KNOWS it". */
    private static void learning() {
        Edge edge = Edges.storyOpen();
        edge.refused("learn 0", Edge.NOT).refused("learn 2", Edge.NOT);
        edge.refusedFor("learn ?", Edge.UNKNOWN, Edges.NEVER).refused("learn 3", Edge.UNKNOWN);
        edge.due("learn 1", 3).due("told 8", 7).refused("learn 1", Edge.NOT);
        Edge.of("k1 1;").refused("learn 0", Edge.UNKNOWN);
        Edge.of("k1 1;m1 0;").refused("learn 0", Edge.NOT).refused("learn 1", Edge.UNKNOWN);
        Edge waits = Edge.of("k1 1;m1 0;m1 0;t0 0 0;t0 1 0;").due("learn 1", 2).due("told 5", 60);
        waits.due("traveller 0 4", 60).due("told 12", 1).due("traveller 1 4", 56).due("told 14", 2);
        Edge all = learnAll(Edge.of(everywhere("t0 0 0;"))).due("told 8", 255).due("told 5", 420);
        all.refusedFor("learn ?", Edge.NOT, 0, 1, 2, 3, 4, 5, 6, 7).refused("learn 8", Edge.UNKNOWN);
        // who sits sits on, and sat no longer by it
        Edge.of("k1 1;m1 0;m1 0;t1 0 1;").does("seat 0", "tell 0", "learn 1").due("told 9", 0).due("traveller 0 3", 1);
    }

    /** Promise 12: "n MINUTES (1 .. 60)". */
    private static void minutes() {
        int[] outside = {0, 61, -1, 1000000, Edge.LEAST, Edge.MOST};
        Edges.storyOpen().refusedFor("minute ?", Edge.OUTSIDE, outside).due("minute 1", 96);
        Edges.storyOpen().due("minute 60", 155).due("told 9", 1).due("traveller 1 3", 30);
        Edge.fresh().refusedFor("minute ?", Edge.OUTSIDE, outside).refusedFor("minute ?", Edge.NOT, 1, 60);
        Edge.of("k1 1;").due("minute 1", 1).due("minute 60", 61).due("minute 2", 63).due("minute 59", 122);
    }

    /** "FULL: THE CLOCK is above 900000" of minute() and drift(): beyond the promised calls. */
    private static void clockAtMost() {
        Edge edge = Edge.of("k1 1;m60 0;m1 0;t1 0 1;").beyondPromised().times(15000, "minute 60").due("told 5", 900000);
        edge.due("minute 1", 900001).refusedFor("minute ?", Edge.FULL, 1, 60).refusedFor("minute ?", Edge.OUTSIDE, 0, 61);
        edge.refusedFor("drift ?", Edge.FULL, 1, 30).refusedFor("drift ?", Edge.OUTSIDE, 0, 31);
        edge.due("undo 1", 900000).due("drift 1", 900001).refused("drift 1", Edge.FULL);
        edge.due("undo 1", 900000).due("drift 30", 900030).refused("minute 1", Edge.FULL);
        edge.due("undo 30", 900000).due("minute 60", 900060).refused("minute 1", Edge.FULL);
        // the others know no such bound
        edge.due("learn 1", 2).due("told 5", 900120).due("anew", 1).due("seat 0", 0).due("tell 0", 60).due("told 5", 900180);
        edge.due("rise", 60);
    }

    /** "A NEW EVENING: all WAIT, WAITED 0; nobody SITS (who did is not PAID for)"; promise 13: "NOT: no BRIDGE". */
    private static void evenings() {
        Edge.fresh().refused("anew", Edge.NOT);
        Edge.of("k1 1;").due("anew", 1).due("anew", 2).due("told 6", 2);
        Edge edge = Edges.storyOpen().due("anew", 2).due("told 12", 31).due("told 13", 0).due("told 14", 0).due("told 9", Edge.NONE);
        edge.due("told 7", 0).due("told 8", 5).due("told 10", 0).due("told 11", Edge.NONE).due("told 16", Edge.NONE).due("told 5", 95);
        for (int t = 0; t < 5; t++) {
            edge.due("traveller " + t + " 3", 0).due("traveller " + t + " 4", 0);
        }
        edge.due("undo 1", 95).due("told 9", 1).due("told 10", 1).due("told 11", 0).due("told 14", 8).due("traveller 1 3", 30);
    }

    /** "FULL: EVENINGS are 9000": beyond the promised calls. */
    private static void eveningsAtMost() {
        Edge edge = Edge.of("k1 1;m1 0;t1 0 1;").beyondPromised().times(8998, "anew").due("anew", 8999).due("anew", 9000);
        edge.refused("anew", Edge.FULL).due("minute 1", 1).refused("anew", Edge.FULL).due("undo 2", 0).due("told 6", 8999).due("anew", 9000);
    }

    /** Promise 14: "n times BY DRAWS (1 .. 30)"; "Behind each a MINUTE passes". */
    private static void drifting() {
        int[] outside = {0, 31, -1, 1000000, Edge.LEAST, Edge.MOST};
        Edges.storyOpen().refusedFor("drift ?", Edge.OUTSIDE, outside);
        Edge.fresh().refusedFor("drift ?", Edge.OUTSIDE, outside).refusedFor("drift ?", Edge.NOT, 1, 30);
        Edge.of("k1 1;").due("drift 1", 1).due("told 20", 1).due("drift 30", 31).due("told 20", 30).due("drift 29", 60);
        Edge.of("k1 1;t0 9 0;").due("drift 30", 30).due("seed 0", drawnFrom(0, 30));
    }

    private static int drawnFrom(int seed, int draws) {
        long drawn = seed;
        for (int i = 0; i < draws; i++) {
            drawn = (drawn * 1103515245L + 12345L) % 2147483648L;
        }
        return (int) drawn;
    }

    /** "if nobody SITS and there are TRAVELLERS, a DRAW of these". */
    private static void drawsWithoutTravellers() {
        Edge.of("k1 1;m1 0;").does("seed 7").due("drift 30", 30).due("seed 7", 7).due("told 12", 0);
        Edge.of("k1 1;m1 0;t0 0 0;").does("seed 7").due("drift 1", 1).due("told 9", 0).due("seed 7", drawnFrom(7, 1));
    }

    /** "on the others, if there are MATTERS, a DRAW of these". */
    private static void drawsWithoutMatters() {
        // by 654583775 the draw of 4 is not 0
        Edge.of("k1 1;t0 0 0;").does("seat 0", "seed 654583775").due("drift 1", 1).due("told 9", 0)
            .due("seed 0", drawnFrom(654583775, 1));
        Edge.of("k1 1;m5 0;t1 0 1;").does("seat 0", "seed 654583775").due("drift 1", 6).due("told 10", 1)
            .due("seed 0", drawnFrom(654583775, 2));
        // by 0 it is 0: he rises, and no matter is drawn
        Edge.of("k1 1;m5 0;t1 0 1;").does("seat 0").due("drift 1", 1).due("told 13", 1).due("seed 0", 12345);
    }

    /** "SEATED, if he WAITS"; "is TOLD him, if that can be". */
    private static void drawsThatCannotBe() {
        Edge gone = Edge.of("k1 1;t0 9 0;").does("minute 16").due("told 14", 1).due("drift 30", 46).due("told 9", Edge.NONE);
        gone.due("seed 0", drawnFrom(0, 30));
        Edge.of("k1 1;t0 9 0;").does("minute 15").due("drift 1", 16).due("told 9", 0).due("told 14", 0);
        Edge again = Edge.of("k1 1;m5 1;t1 0 1;").does("seat 0", "tell 0", "seed 654583775").due("drift 1", 6).due("told 9", 0);
        again.due("traveller 0 3", 5).due("seed 0", drawnFrom(654583775, 2));
        // by 654583775 the second draw of 2 is 1, which he does not know
        int second = drawnFrom(654583775, 2) / 65536 % 2;
        Edge.of("k1 1;m5 0;m5 0;t1 0 3;").does("seat 0", "seed 654583775").due("drift 1", second == 0 ? 6 : 1).due("told 9", 0);
        // what does not follow makes him rise there too
        Edge.of("k1 1;m5 0;m5 0;t1 0 3;").does("learn 1", "anew", "seat 0", "tell " + (1 - second), "seed 654583775")
            .due("drift 1", 66).due("told 9", Edge.NONE).due("told 7", 5);
    }

    /** "left over by 2 to the 31"; the seed's own bounds are in EdgesOfKeepingTest. */
    private static void seedWrapsAround() {
        Edge.of("k1 1;t0 0 0;").does("seed 2147483647", "drift 1").due("seed 0", 1043980748);
        Edge.of("k1 1;t0 0 0;").does("seed 1", "drift 1").due("seed 0", 1103527590);
        Edge.of("k1 1;t0 0 0;").does("seed 2", "drift 1").due("seed 0", 59559187);
        Edge.of("k1 1;t0 0 0;").does("drift 1").due("seed 0", 12345);
        // the draw itself cuts off what is below 65536: by 0 it is 0, by 1 it is 16838
        Edge.of("k1 1;t0 0 0;t0 0 0;t0 0 0;t0 0 0;t0 0 0;t0 0 0;").does("seed 1", "drift 1").due("told 9", 2);
        Edge.of("k1 1;t0 0 0;t0 0 0;t0 0 0;t0 0 0;t0 0 0;t0 0 0;").does("drift 1").due("told 9", 0);
    }

    /** Promise 15: "The n latest (1 .. 30)", "NOT: not so many". */
    private static void undoing() {
        int[] outside = {0, 31, -1, 1000000, Edge.LEAST, Edge.MOST};
        Edge.fresh().refusedFor("undo ?", Edge.OUTSIDE, outside).refusedFor("undo ?", Edge.NOT, 1, 30);
        Edges.storyOpen().due("told 20", 3).refusedFor("undo ?", Edge.OUTSIDE, outside).refusedFor("undo ?", Edge.NOT, 4, 5, 30);
        Edges.storyOpen().due("undo 3", 63).due("told 20", 0).refusedFor("undo ?", Edge.NOT, 1, 3, 30).due("told 4", 3);
        Edges.storyOpen().due("undo 2", 65).due("told 20", 1).refused("undo 2", Edge.NOT).due("undo 1", 63).refused("undo 1", Edge.NOT);
        // each kind of deed is one that can be undone
        Edge kinds = Edge.of("k1 1;m5 0;m6 0;t1 0 1;").does("seat 0", "tell 0", "rise").due("told 20", 3).due("learn 1", 2).due("told 20", 4);
        kinds.due("minute 1", 66).due("told 20", 5).due("anew", 1).due("told 20", 6).due("drift 2", 68).due("told 20", 8);
        kinds.due("undo 1", 67).due("undo 1", 66).due("told 6", 1).due("undo 1", 66).due("told 6", 0).due("told 13", 1).due("undo 1", 65);
        kinds.due("undo 1", 5).due("told 8", 1).due("told 13", 1).due("told 7", 5).due("undo 1", 5).due("told 13", 0).due("told 7", 0);
        kinds.due("told 9", 0).due("undo 1", 0).due("told 10", 0).due("undo 1", 0).due("told 9", Edge.NONE).due("told 12", 1);
        kinds.refused("undo 1", Edge.NOT);
        // a refused deed is none that could be undone
        Edges.storyOpen().due("tell 0", Edge.NOT).due("seat 9", Edge.UNKNOWN).due("minute 0", Edge.OUTSIDE).due("told 20", 3);
    }

    /** "(30 at most are kept)". */
    private static void undoneAtMost() {
        Edge edge = Edge.of("k1 1;").times(29, "minute 1").due("told 20", 29).refused("undo 30", Edge.NOT);
        edge.does("minute 1").due("told 20", 30).does("minute 1").due("told 20", 30).due("told 5", 31);
        edge.due("undo 30", 1).due("told 20", 0).refused("undo 1", Edge.NOT);
        Edge.of("k1 1;").times(30, "minute 1").due("undo 30", 0).refused("undo 1", Edge.NOT);
        Edge.of("k1 1;").times(100, "minute 2").due("undo 29", 142).due("told 20", 1).due("undo 1", 140).refused("undo 1", Edge.NOT);
        Edge.of("k1 1;").does("minute 5", "drift 30").due("told 20", 30).due("undo 30", 5).refused("undo 1", Edge.NOT);
        Edge.of("k1 1;").does("minute 5", "drift 29").due("told 20", 30).due("undo 30", 0).refused("undo 1", Edge.NOT);
        Edge.of("k1 1;").does("drift 30", "drift 30").due("undo 15", 45).due("undo 15", 30).refused("undo 1", Edge.NOT);
    }

    /** "since the text or IMAGE"; "THE SEED stays". */
    private static void undoneSince() {
        Edge edge = Edge.of("k1 1;t0 0 0;").does("minute 1", "keep 0").refused("undo 1", Edge.NOT).does("minute 2", "minute 3");
        edge.refused("undo 3", Edge.NOT).due("undo 2", 1).does("minute 4", "goBack 0").refused("undo 1", Edge.NOT);
        edge.does("minute 5").feeds("k1 1;").does("bridge").refused("undo 1", Edge.NOT).does("minute 6");
        // a text with a fault, and a refused image, take nothing away
        edge.feeds("x").due("bridge", -11).due("keep 2", Edge.UNKNOWN).due("goBack 1", Edge.NOT).due("told 20", 1).due("undo 1", 0);
        Edge.of("k1 1;t0 0 0;").does("drift 1").due("undo 1", 0).due("seed 0", 12345).due("told 9", Edge.NONE);
        Edge.of("k1 1;t0 0 0;").does("minute 1", "seed 9").due("undo 1", 0).due("seed 0", 9);
    }

    /** "An object is used for at most 512 calls": the last of them answers as all do. */
    private static void lastPromisedCall() {
        Edge edge = Edge.of("k1 1;t0 0 0;").times(498, "minute 60");
        edge.due("told 5", 29880);
    }
}
