/** The edges of what is asked: promises 5 to 7 and 16 to 19, and what sections 2 and 3 say of them, sentence by sentence. */
public final class EdgesOfQuestionsTest {
    private static final int[] NEVER_WHAT = {-1, 1000, Edge.LEAST, Edge.MOST};

    public static void main(String[] args) {
        tolds();
        nobodys();
        longestSat();
        learnt();
        matters();
        leads();
        rounds();
        travellers();
        favourites();
        patience();
        staysOfPlainOnes();
        staysOfWidowersAndMerchants();
        staysOfProfessorsAndTheDeaf();
        staysRefused();
        talksOfNothing();
        talksOfLikeRows();
        talksOfAll();
        talksRefused();
        queuesOfNobody();
        queuesOfLikeOnes();
        queuesJustInTime();
        queuesRefused();
        dryWeeks();
        Check.end("EdgesOfQuestionsTest");
    }

    /** Promise 5: 0 .. 20, "OUTSIDE"; "0 without a BRIDGE", NONE where nobody or nothing is. */
    private static void tolds() {
        Edge.fresh().refusedFor("told ?", Edge.OUTSIDE, NEVER_WHAT).refused("told 21", Edge.OUTSIDE).due("told 0", 0).due("told 20", 0);
        Edges.storyOpen().refusedFor("told ?", Edge.OUTSIDE, NEVER_WHAT).refused("told 21", Edge.OUTSIDE);
        Edges.storyOpen().dueRow("told", 10, 2, 3, 5, 3, 95, 1, 0, 5, 1, 1, 0, 21, 0, 8, 0, 1, 1, 1, 1, 3);
        Edges.storyRisen().dueRow("told", 10, 2, 3, 5, 3, 95, 1, 6, 5, -1, 0, -1, 21, 2, 8, 0, 1, 1, 1, 1, 4);
        Edge.of("k1 1;").dueRow("told", 1, 1, 0, 0, 0, 0, 0, 0, 0, -1, 0, -1, 0, 0, 0, 0, -1, -1, 0, 0, 0);
        // one who sits, but was told nothing
        Edge.of("k1 1;m1 0;t0 0 0;").does("seat 0").due("told 9", 0).due("told 10", 0).due("told 11", Edge.NONE);
    }

    /** "NOBODY'S: MATTERS (a SET) nobody CANNOT leave". */
    private static void nobodys() {
        Edge.of("k1 1;t0 0 255;").due("told 15", 0);
        Edge.of("k1 1;m1 0;m1 0;").due("told 15", 3);
        Edge.of("k1 1;" + "m1 0;".repeat(8) + "t0 0 0;").due("told 15", 255);
        Edge.of("k1 1;" + "m1 0;".repeat(8) + "t0 0 128;t1 0 1;").due("told 15", 126);
        Edge.of("k1 1;" + "m1 0;".repeat(8) + "t0 0 127;t1 0 128;").due("told 15", 0);
    }

    /** "LONGEST SAT: .. this EVENING; of like ones the least; NONE: nobody SAT a MINUTE". */
    private static void longestSat() {
        Edge edge = Edge.of("k1 1;m1 0;t2 0 1;t1 0 1;t0 0 1;").due("told 16", Edge.NONE);
        edge.does("seat 0").due("tell 0", 0).due("told 16", Edge.NONE).does("rise", "seat 2").due("told 16", Edge.NONE);
        edge.due("tell 0", 1).due("told 16", 2).does("rise", "seat 1").due("told 16", 2).due("tell 0", 1).due("told 16", 1);
        edge.does("anew").due("told 16", Edge.NONE).does("undo 1").due("told 16", 1);
        Edge.of("k1 1;m9 0;t0 1 1;t1 0 1;").does("seat 0", "tell 0", "rise", "seat 1", "tell 0").due("told 16", 1);
        Edge.of("k1 1;m9 0;t1 0 1;t0 1 1;").does("seat 0", "tell 0", "rise", "seat 1", "tell 0").due("told 16", 0);
        Edge.of("k1 1;m9 0;t0 0 0;t0 0 0;t0 0 0;t0 0 0;t0 0 0;t1 0 1;").does("seat 5", "tell 0").due("told 16", 5);
    }

    /** "LEARN: .. of like ones the least; NONE: he KNOWS all". */
    private static void learnt() {
        Edge.fresh().due("told 17", Edge.NONE);
        Edge.of("k1 1;m1 0;t1 0 1;").due("told 17", Edge.NONE);
        Edge.of("k1 1;m1 0;m9 0;m9 0;t1 0 7;").due("told 17", 1).does("learn 1").due("told 17", 2).does("learn 2").due("told 17", Edge.NONE);
        Edge.of("k1 1;m1 0;m9 0;m10 0;t1 0 7;").due("told 17", 2);
        // worths are whole quarters: 9 and 10 are alike by 5 only from below
        Edge.of("k5 1;m1 0;m8 0;m9 0;t1 0 7;").due("told 17", 1);
        Edge.of("k5 1;m1 0;m9 0;m10 0;t1 0 7;").due("told 17", 2);
        // none pays anything: the least all the same
        Edge.of("k60 1;m1 0;m1 0;m1 0;t4 0 7;").due("told 17", 1);
        Edge.of("k1 1;" + "m1 0;".repeat(7) + "m2 0;t1 0 255;").due("told 17", 7);
        // of all travellers together, those who turned back or sit too
        Edge.of("k1 1;m1 0;m9 0;m5 0;t1 0 2;t1 9 4;t1 9 4;").does("minute 60").due("told 14", 6).due("told 17", 2);
        Edge.of("k1 1;m1 0;m9 0;m5 0;t1 0 2;t1 9 4;").does("seat 0").due("told 17", 1);
    }

    /** Promise 6: 0 .. 3, "UNKNOWN, OUTSIDE" in this order. */
    private static void matters() {
        Edge edge = Edges.storyOpen();
        edge.dueRow("matter 0", 30, 2, 7, 3).dueRow("matter 2", 45, 1, 7, 3);
        edge.refusedFor("matter ? 0", Edge.UNKNOWN, Edges.NEVER).refused("matter 3 0", Edge.UNKNOWN).refused("matter 3 4", Edge.UNKNOWN);
        edge.refusedFor("matter 2 ?", Edge.OUTSIDE, NEVER_WHAT).refused("matter 2 4", Edge.OUTSIDE);
        edge.refusedFor("matter 3 ?", Edge.UNKNOWN, NEVER_WHAT);
        Edge.of("k1 1;").refused("matter 0 0", Edge.UNKNOWN).refused("matter 0 4", Edge.UNKNOWN);
        Edge.of("k1 1;" + "m1 0;".repeat(8)).due("matter 7 0", 1).refused("matter 7 4", Edge.OUTSIDE).refused("matter 8 4", Edge.UNKNOWN);
    }

    /** "LEADS: MATTERS (a SET) to which one comes from a MATTER, by one or more steps". */
    private static void leads() {
        Edge chain = Edge.of("k1 1;m1 2;m1 4;m1 8;m1 16;m1 32;m1 64;m1 128;m1 0;");
        int[] due = {254, 252, 248, 240, 224, 192, 128, 0};
        for (int m = 0; m < 8; m++) {
            chain.due("matter " + m + " 2", due[m]).due("matter " + m + " 3", Edge.NONE);
        }
        // itself only if one comes back to it
        Edge.of("k1 1;m1 2;m1 2;").due("matter 0 2", 2).due("matter 1 2", 2);
        Edge.of("k1 1;m1 2;m1 1;").due("matter 0 2", 3).due("matter 1 2", 3);
    }

    /** "ROUND: the fewest steps from a MATTER back to itself; NONE". */
    private static void rounds() {
        Edge.of("k1 1;m1 1;m1 0;").due("matter 0 3", 1).due("matter 1 3", Edge.NONE);
        Edge ring = Edge.of("k1 1;m1 2;m1 4;m1 8;m1 16;m1 32;m1 64;m1 128;m1 1;");
        for (int m = 0; m < 8; m++) {
            ring.due("matter " + m + " 3", 8).due("matter " + m + " 2", 255);
        }
        Edge.of("k1 1;m1 6;m1 4;m1 1;").due("matter 0 3", 2).due("matter 1 3", 3).due("matter 2 3", 2);
        Edge.of("k1 1;m1 2;m1 6;m1 4;").due("matter 0 3", Edge.NONE).due("matter 1 3", 1).due("matter 2 3", 1);
        Edge.of("k1 1;m1 2;m1 4;m1 2;").due("matter 0 3", Edge.NONE).due("matter 1 3", 2);
    }

    /** Promise 7: 0 .. 6, "UNKNOWN, OUTSIDE" in this order. */
    private static void travellers() {
        Edge edge = Edges.storyOpen();
        edge.dueRow("traveller 0", 0, 3, 7, 0, 32, 13, 2).dueRow("traveller 1", 1, 0, 1, 30, 2, 0, 0);
        edge.dueRow("traveller 3", 3, 9, 6, 0, 16, 0, 2).dueRow("traveller 4", 4, 0, 7, 0, 32, 28, -1);
        edge.refusedFor("traveller ? 0", Edge.UNKNOWN, Edges.NEVER).refused("traveller 5 0", Edge.UNKNOWN);
        edge.refusedFor("traveller 4 ?", Edge.OUTSIDE, NEVER_WHAT).refused("traveller 4 7", Edge.OUTSIDE);
        edge.refusedFor("traveller 5 ?", Edge.UNKNOWN, NEVER_WHAT).refused("traveller 5 7", Edge.UNKNOWN);
        Edge.of("k1 1;m1 0;").refused("traveller 0 0", Edge.UNKNOWN).refused("traveller 0 7", Edge.UNKNOWN);
        Edge.of("k1 1;" + "t0 0 0;".repeat(6)).due("traveller 5 0", 0).refused("traveller 5 7", Edge.OUTSIDE).refused("traveller 6 7", Edge.UNKNOWN);
    }

    /** "FAVOURITE: .. of like ones the least; NONE: none is longer than 0". */
    private static void favourites() {
        Edge.of("k1 1;t0 0 255;").due("traveller 0 6", Edge.NONE);
        Edge.of("k1 1;m9 0;t0 0 0;t4 0 1;").due("traveller 0 6", Edge.NONE).due("traveller 1 6", Edge.NONE);
        Edge.of("k1 1;m18 0;m19 0;m20 0;t2 9 3;t2 9 7;").due("traveller 0 6", Edge.NONE).due("traveller 1 6", 2);
        Edge.of("k1 1;m9 0;m10 0;m10 0;t1 0 7;t1 0 5;t0 9 7;").due("traveller 0 6", 1).due("traveller 1 6", 2).due("traveller 2 6", 0);
        Edge.of("k1 1;" + "m9 0;".repeat(7) + "m9 0;t0 9 128;").due("traveller 0 6", 7);
        // by his STAY, not by how long it lasts: it need not be KNOWN
        Edge.of("k1 1;m12 0;m9 3;t3 0 3;").due("traveller 0 6", 1);
    }

    /** "PATIENCE of one who WAITS: how many MINUTES more may pass so that he does not turn"; "0: he does not WAIT". */
    private static void patience() {
        Edge edge = Edge.of("k1 1;m5 0;t1 9 1;t1 8 1;").due("traveller 0 5", 15).due("traveller 1 5", 20);
        edge.does("minute 14").due("traveller 0 5", 1).does("minute 1").due("traveller 0 5", 0).due("told 12", 3);
        edge.does("minute 1").due("traveller 0 5", 0).due("told 12", 2).due("traveller 1 5", 4);
        edge.does("seat 1").due("traveller 1 5", 0).does("rise").due("traveller 1 5", 0).does("anew").due("traveller 1 5", 20);
    }

    /** "0 (plain): L less HURRY (1 at least)"; "0 if he can leave it". */
    private static void staysOfPlainOnes() {
        for (int hurry = 0; hurry <= 9; hurry++) {
            for (int lasts : new int[] {1, 2, 5, 8, 9, 10, 11, 59, 60}) {
                int due = lasts - hurry < 1 ? 1 : lasts - hurry;
                Edge.of("k1 1;m" + lasts + " 0;t0 " + hurry + " 1;t0 " + hurry + " 254;").due("stay 0 0", due).due("stay 1 0", 0);
            }
        }
    }

    /** "1 (a widower): L. 2 (a merchant): half of L (cut) less HURRY (0 at least)". */
    private static void staysOfWidowersAndMerchants() {
        Edge.of("k1 1;m1 0;m60 0;t1 9 3;t1 0 1;").due("stay 0 0", 1).due("stay 0 1", 60).due("stay 1 0", 1).due("stay 1 1", 0);
        int[][] merchants = {{1, 0, 0}, {2, 0, 1}, {3, 0, 1}, {4, 0, 2}, {60, 0, 30}, {60, 9, 21}, {18, 9, 0}, {19, 9, 0}, {20, 9, 1},
            {21, 9, 1}, {17, 9, 0}, {1, 9, 0}, {3, 1, 0}, {4, 1, 1}};
        for (int[] row : merchants) {
            Edge.of("k1 1;m" + row[0] + " 0;t2 " + row[1] + " 1;t2 0 0;").due("stay 0 0", row[2]).due("stay 1 0", 0);
        }
    }

    /** "3 (a professor): L, and 5 for each MATTER to which it leads on. 4 (deaf): 0". */
    private static void staysOfProfessorsAndTheDeaf() {
        Edge.of("k1 1;m60 255;" + "m1 0;".repeat(7) + "t3 9 255;t3 0 254;").due("stay 0 0", 100).due("stay 0 7", 1).due("stay 1 0", 0);
        Edge.of("k1 1;m60 255;t3 0 1;").due("stay 0 0", 65);
        Edge.of("k1 1;m60 254;t3 0 1;").due("stay 0 0", 60);
        Edge.of("k1 1;m60 255;t4 0 255;t4 9 255;").due("stay 0 0", 0).due("stay 1 0", 0);
    }

    /** Promise 16: "UNKNOWN", of a TRAVELLER and of a MATTER. */
    private static void staysRefused() {
        Edge edge = Edges.storyOpen().due("stay 4 2", 0).due("stay 0 2", 42);
        edge.refusedFor("stay ? 0", Edge.UNKNOWN, Edges.NEVER).refusedFor("stay 0 ?", Edge.UNKNOWN, Edges.NEVER);
        edge.refused("stay 5 0", Edge.UNKNOWN).refused("stay 0 3", Edge.UNKNOWN).refused("stay 5 3", Edge.UNKNOWN);
        Edge.of("k1 1;m1 0;").refused("stay 0 0", Edge.UNKNOWN);
        Edge.of("k1 1;t0 0 0;").refused("stay 0 0", Edge.UNKNOWN);
        Edge.of("k1 1;" + "m1 0;".repeat(8) + "t1 0 128;".repeat(6)).due("stay 5 7", 1).refused("stay 6 7", Edge.UNKNOWN)
            .refused("stay 5 8", Edge.UNKNOWN);
    }

    /** "0, NONE, 0, if no STAY can come to it". */
    private static void talksOfNothing() {
        Edge.of("k1 1;t0 0 255;").dueRow("talk 0", 0, -1, 0, 0);
        Edge.of("k1 1;m9 0;t0 0 0;t4 0 1;t2 9 1;").dueRow("talk 0", 0, -1, 0, 0).dueRow("talk 1", 0, -1, 0, 0).dueRow("talk 2", 0, -1, 0, 0);
        // and nothing of another's talk is left over
        Edge.of("k1 1;m9 0;t1 0 1;t4 0 1;").dueRow("talk 0", 9, 0, 1, 9).due("talk 1 1", Edge.NONE).due("talk 0 2", 1).due("talk 1 2", 0);
        // what the keeper does not know is not told
        Edge.of("k1 1;m9 2;m9 1;t1 0 2;").dueRow("talk 0", 0, -1, 0, 0).does("learn 1").dueRow("talk 0", 9, 1, 1, 9);
        Edge.of("k1 1;m9 0;t0 9 1;").dueRow("talk 0", 1, 0, 1, 1);
    }

    /** "of like rows the one of fewest MATTERS, of these the first (MATTER by MATTER the lesser): its first MATTER". */
    private static void talksOfLikeRows() {
        Edge few = Edge.of("k1 1;m5 2;m5 0;m10 0;m9 0;t1 0 7;t1 0 11;t1 0 13;").does("learn 1").dueRow("talk 0", 10, 0, 2, 10);
        few.does("learn 2").dueRow("talk 0", 10, 2, 1, 10).does("learn 3").dueRow("talk 1", 10, 0, 2, 10).dueRow("talk 2", 10, 2, 1, 10);
        Edge.of("k1 1;m1 0;m5 4;m5 2;t1 0 6;").does("learn 1", "learn 2").dueRow("talk 0", 10, 1, 2, 10);
        Edge.of("k1 1;m1 0;m5 0;m5 2;t1 0 6;").does("learn 1", "learn 2").dueRow("talk 0", 10, 2, 2, 10);
        // 1 2 and 0 3 are alike, and so are 0 1 and 2 3
        Edge.of("k1 1;m5 8;m5 4;m5 0;m5 0;t1 0 15;").does("learn 1", "learn 2", "learn 3").dueRow("talk 0", 10, 0, 2, 10);
        Edge.of("k1 1;m5 2;m5 0;m5 8;m5 0;t1 0 15;").does("learn 1", "learn 2", "learn 3").dueRow("talk 0", 10, 0, 2, 10);
        // 0 is of no use ahead of 1, though it leads on to it: fewer is better
        Edge.of("k1 1;m1 2;m5 0;t1 0 2;").does("learn 1").dueRow("talk 0", 5, 1, 1, 5);
        // but it counts between two
        Edge.of("k1 1;m1 2;m5 1;m5 0;t1 0 3;").does("learn 1", "learn 2").dueRow("talk 0", 6, 0, 2, 6);
        Edge.of("k1 1;m1 4;m5 1;m5 0;t1 0 6;").does("learn 1", "learn 2").dueRow("talk 0", 10, 1, 3, 10);
    }

    private static void talksOfAll() {
        Edge edge = Edge.of("k60 9;" + "m60 255;".repeat(8) + "t3 0 255;t1 0 255;t0 9 255;t2 9 255;");
        for (int m = 1; m <= 7; m++) {
            edge.dueRow("talk 0", 100 * m, 0, m, 100 * m / 60 * 9).does("learn " + m);
        }
        edge.dueRow("talk 0", 800, 0, 8, 117).dueRow("talk 1", 480, 0, 8, 72).dueRow("talk 2", 408, 0, 8, 54).dueRow("talk 3", 168, 0, 8, 18);
        // a chain from the last to the first: one row alone has all eight
        Edge chain = Edge.of("k7 2;m1 0;m1 1;m1 2;m1 4;m1 8;m1 16;m1 32;m1 64;t1 0 255;");
        chain.does("learn 7", "learn 6", "learn 5", "learn 4", "learn 3", "learn 2").dueRow("talk 0", 6, 7, 6, 0);
        chain.does("learn 1").dueRow("talk 0", 8, 7, 8, 2);
        // from a new seat, whatever was told to whomever sits
        Edge.of("k1 1;m5 2;m5 0;t1 0 3;").does("learn 1", "anew", "seat 0", "tell 1").dueRow("talk 0", 10, 0, 2, 10);
    }

    /** Promise 17: 0 .. 3, "UNKNOWN, OUTSIDE" in this order. */
    private static void talksRefused() {
        Edge edge = Edges.storyOpen();
        edge.refusedFor("talk ? 0", Edge.UNKNOWN, Edges.NEVER).refused("talk 5 0", Edge.UNKNOWN).refused("talk 5 4", Edge.UNKNOWN);
        edge.refusedFor("talk 4 ?", Edge.OUTSIDE, NEVER_WHAT).refused("talk 4 4", Edge.OUTSIDE).dueRow("talk 0", 69, 2, 2, 12);
        edge.refusedFor("talk -1 ?", Edge.UNKNOWN, NEVER_WHAT);
        Edge.of("k1 1;m1 0;").refused("talk 0 0", Edge.UNKNOWN);
    }

    /** "the figures (0: nobody WAITS)". */
    private static void queuesOfNobody() {
        Edge.fresh().due("queue 0", 0).due("queue 1", 0);
        Edge.of("k1 1;m1 0;").due("queue 0", 0).due("queue 1", 0);
        Edge.of("k1 1;m1 0;t1 9 1;").due("queue 0", 1).due("queue 1", 1).does("minute 16").due("queue 0", 0).due("queue 1", 0);
        Edge.of("k1 1;m1 0;t1 9 1;").does("seat 0", "rise").due("queue 0", 0).due("queue 1", 0);
        // who waits has his figure even if he pays nothing
        Edge.of("k1 1;t0 0 0;t0 0 0;").due("queue 0", 0).due("queue 1", 12).does("seat 0", "rise").due("queue 1", 2);
    }

    /** "of like ones the least number"; "all who WAIT". */
    private static void queuesOfLikeOnes() {
        Edge.of("k1 1;m1 0;" + "t1 0 1;".repeat(6)).due("queue 0", 6).due("queue 1", 123456).does("seat 3", "rise")
            .due("queue 0", 5).due("queue 1", 12356);
        // the second would be too late behind the first, and pays no less than he: either way one, so the least number
        Edge.of("k1 1;m30 0;t1 7 1;t1 7 1;").due("queue 0", 30).due("queue 1", 12);
        Edge.of("k1 1;m30 1;t1 7 1;t3 7 1;").due("queue 0", 35).due("queue 1", 21);
        Edge.of("k1 1;m10 0;t1 0 1;t1 2 1;t1 4 1;t1 6 1;t1 8 1;t1 9 1;").due("queue 0", 60).due("queue 1", 165432);
        Edge.of("k1 1;m10 0;t1 0 1;t1 4 1;t1 2 1;t1 8 1;t1 6 1;t1 9 1;").due("queue 0", 60).due("queue 1", 164523);
        // the greatest number of all is the only one in time
        Edge.of("k5 1;m5 0;t1 4 1;t1 5 1;t1 6 1;t1 7 1;t1 8 1;t1 9 1;").does("minute 15").due("queue 0", 6).due("queue 1", 654321);
    }

    /** "who TURNED BACK by then is left out": his PATIENCE may be used up, but no MINUTE more. */
    private static void queuesJustInTime() {
        Edge.of("k1 1;m15 0;t1 0 1;t1 9 1;").due("queue 0", 30).due("queue 1", 12);
        Edge.of("k1 1;m16 0;t1 0 1;t1 9 1;").due("queue 0", 32).due("queue 1", 21);
        Edge edge = Edge.of("k1 1;m15 0;t1 0 1;t1 9 1;").does("minute 1").due("queue 0", 30).due("queue 1", 21);
        edge.does("minute 14").due("queue 1", 21).due("queue 0", 30).does("minute 1").due("queue 0", 15).due("queue 1", 1);
        // who is left out takes no time: behind 1 the second is too late, so the third is just in time
        Edge.of("k1 1;m20 0;t1 8 1;t1 9 1;t1 8 1;").due("queue 0", 40).due("queue 1", 123);
        // what professors leave is no matter: his next talk would be longer by it
        Edge.of("k1 1;m5 0;m50 0;t3 0 3;t1 0 3;").due("queue 0", 10).due("queue 1", 12);
    }

    /** Promise 18: 0, 1, "OUTSIDE, NOT: somebody SITS" in this order. */
    private static void queuesRefused() {
        Edges.storyOpen().refusedFor("queue ?", Edge.NOT, 0, 1).refusedFor("queue ?", Edge.OUTSIDE, NEVER_WHAT).refused("queue 2", Edge.OUTSIDE);
        Edges.storyRisen().refusedFor("queue ?", Edge.OUTSIDE, NEVER_WHAT).refused("queue 2", Edge.OUTSIDE);
        Edge.fresh().refusedFor("queue ?", Edge.OUTSIDE, NEVER_WHAT).refused("queue 2", Edge.OUTSIDE);
        Edge.of("k1 1;t0 0 0;").due("queue 1", 1).does("seat 0").refused("queue 1", Edge.NOT).does("anew").due("queue 1", 1);
    }

    /** "DRY WEEK: odds of n EVENINGS (0 .. 60) .. by q of a hundred (0 .. 100) .. (cut)". */
    private static void dryWeeks() {
        Edge edge = Edge.fresh();
        edge.due("dry 0 0", 1000000000).due("dry 0 100", 1000000000).due("dry 60 100", 1000000000).due("dry 1 0", 0).due("dry 60 0", 0);
        edge.due("dry 1 1", 10000000).due("dry 1 99", 990000000).due("dry 4 1", 10).due("dry 5 1", 0).due("dry 60 1", 0);
        // 0.07 to the fifth is 1680.7; cut, times 0.07 is 117.6; cut, times 0.07 is 8.19
        edge.due("dry 5 7", 1680).due("dry 6 7", 117).due("dry 7 7", 8).due("dry 8 7", 0).due("dry 60 99", 547156620);
        edge.refusedFor("dry ? 50", Edge.OUTSIDE, -1, 61, Edge.LEAST, Edge.MOST);
        edge.refusedFor("dry 5 ?", Edge.OUTSIDE, -1, 101, Edge.LEAST, Edge.MOST);
        edge.refused("dry -1 -1", Edge.OUTSIDE).refused("dry 61 101", Edge.OUTSIDE).refused("dry 0 101", Edge.OUTSIDE);
        Edges.storyOpen().refused("dry 61 0", Edge.OUTSIDE).refused("dry 0 -1", Edge.OUTSIDE).due("dry 60 100", 1000000000);
    }
}
