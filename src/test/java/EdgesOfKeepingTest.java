/** The edges of what is kept: promises 20 to 28, and what section 3 says of them, sentence by sentence. */
public final class EdgesOfKeepingTest {
    public static void main(String[] args) {
        stayedBounds();
        stayedAtMost();
        couldBe();
        asks();
        bookBounds();
        bookAtMost();
        judged();
        torn();
        seeds();
        keeping();
        goingBack();
        imagesAndBridges();
        whatImagesHold();
        Check.end("EdgesOfKeepingTest");
    }

    /** Promise 20: "one STAYED v MINUTES (0 .. 100)"; "UNKNOWN, OUTSIDE" in this order. */
    private static void stayedBounds() {
        Edge edge = Edges.storyOpen();
        edge.refusedFor("stayed ? 0", Edge.UNKNOWN, Edges.NEVER).refused("stayed 5 0", Edge.UNKNOWN);
        edge.refusedFor("stayed 4 ?", Edge.OUTSIDE, -1, 101, Edge.LEAST, Edge.MOST);
        edge.refusedFor("stayed 5 ?", Edge.UNKNOWN, -1, 101, Edge.LEAST, Edge.MOST);
        edge.due("stayed 4 0", 2).due("stayed 4 100", 3).due("told 18", 3);
        Edge.of("k1 1;m1 0;").refused("stayed 0 0", Edge.UNKNOWN).refused("stayed 0 101", Edge.UNKNOWN);
    }

    /** "STAYED (6 at most)"; "FULL (6)" behind UNKNOWN and OUTSIDE. */
    private static void stayedAtMost() {
        Edge edge = Edge.of(Check.RING);
        for (int i = 1; i <= 6; i++) {
            edge.due("stayed 4 0", i).due("told 18", i);
        }
        edge.refused("stayed 4 0", Edge.FULL).refused("stayed 0 27", Edge.FULL).refused("stayed 0 100", Edge.FULL);
        edge.refused("stayed 0 101", Edge.OUTSIDE).refused("stayed 0 -1", Edge.OUTSIDE);
        edge.refused("stayed 5 0", Edge.UNKNOWN).refused("stayed 5 101", Edge.UNKNOWN).refused("stayed -1 0", Edge.UNKNOWN);
        edge.due("couldBe", 7).due("tear", 6).due("stayed 0 27", 1).due("couldBe", 1);
        // the sixth counts as the first does
        Edge.of(Check.RING).times(5, "stayed 4 0").due("couldBe", 7).due("stayed 0 27", 6).due("couldBe", 1);
    }

    /** "COULD BE: MATTERS (a SET) by which all that STAYED is so". */
    private static void couldBe() {
        Edge.fresh().due("couldBe", 0);
        Edge.of("k1 1;t0 0 0;").due("couldBe", 0).due("stayed 0 0", 1).due("couldBe", 0);
        Edge.of("k1 1;" + "m1 0;".repeat(8)).due("couldBe", 255);
        Edge.of("k1 1;m60 255;" + "m1 0;".repeat(7) + "t3 0 255;").due("stayed 0 100", 1).due("couldBe", 1);
        Edge.of("k1 1;m60 255;" + "m1 0;".repeat(7) + "t3 0 255;").due("stayed 0 99", 1).due("couldBe", 0);
        Edge.of("k1 1;" + "m1 0;".repeat(7) + "m2 0;t1 0 255;").due("stayed 0 2", 1).due("couldBe", 128);
        Edge.of("k1 1;m9 0;m9 0;t1 0 2;").due("stayed 0 0", 1).due("couldBe", 1).due("stayed 0 9", 2).due("couldBe", 0);
    }

    /** "ASK: .. the greatest part that is alike is least; of like ones the least; NONE: none parts them". */
    private static void asks() {
        Edge.fresh().due("ask", Edge.NONE);
        Edge.of("k1 1;m1 0;m2 0;").due("ask", Edge.NONE);
        Edge.of("k1 1;t1 0 255;").due("ask", Edge.NONE);
        Edge.of("k1 1;m1 0;t1 0 255;").due("ask", Edge.NONE);
        Edge.of("k1 1;m5 0;m5 0;t1 0 255;t4 0 255;").due("ask", Edge.NONE);
        Edge.of("k1 1;m5 0;m6 0;t4 0 255;t1 0 255;").due("ask", 1);
        Edge.of("k1 1;m5 0;m6 0;t1 0 1;t1 0 255;").due("ask", 0);
        // parts of 3 and 1, then of 2 and 2, then of 2, 1 and 1
        Edge.of("k1 1;m5 0;m6 0;m7 0;m8 0;t1 0 1;t0 0 0;t1 0 3;").due("ask", 2);
        Edge.of("k1 1;m5 0;m5 0;m7 0;m7 0;t1 0 15;t1 0 3;t1 0 12;").due("ask", 0);
        Edge.of("k1 1;m5 0;m6 0;m7 0;t1 0 1;t1 0 7;").due("ask", 1);
        Edge.of("k1 1;" + "m1 0;".repeat(8) + "t0 0 0;t0 0 0;t0 0 0;t0 0 0;t0 0 0;t1 0 128;").due("ask", 5);
        // only what could be is parted
        Edge.of("k1 1;m5 0;m6 0;m6 0;t1 0 7;t1 0 2;").due("ask", 0).does("stayed 0 6").due("couldBe", 6).due("ask", 1);
        Edge.of("k1 1;m5 0;m6 0;t1 0 3;").does("stayed 0 5").due("ask", Edge.NONE).does("stayed 0 6").due("couldBe", 0).due("ask", Edge.NONE);
    }

    /** Promise 23: "An entry behind THE BOOK (0 .. 9999)"; "UNKNOWN, OUTSIDE" in this order. */
    private static void bookBounds() {
        Edge edge = Edges.storyOpen();
        edge.refusedFor("write ? 0", Edge.UNKNOWN, Edges.NEVER).refused("write 5 0", Edge.UNKNOWN);
        edge.refusedFor("write 4 ?", Edge.OUTSIDE, -1, 10000, Edge.LEAST, Edge.MOST);
        edge.refusedFor("write 5 ?", Edge.UNKNOWN, -1, 10000, Edge.LEAST, Edge.MOST);
        edge.due("write 4 0", 2).due("judge", Edge.NONE).due("write 4 9999", 3).due("judge", 2).due("told 19", 3);
        Edge.of("k1 1;m1 0;").refused("write 0 0", Edge.UNKNOWN).refused("write 0 10000", Edge.UNKNOWN);
    }

    /** "THE BOOK (20 at most)"; "FULL (20)" behind UNKNOWN and OUTSIDE. */
    private static void bookAtMost() {
        Edge edge = Edge.of(Check.RING);
        for (int i = 1; i <= 20; i++) {
            edge.due("write 4 0", i).due("told 19", i);
        }
        edge.refused("write 4 0", Edge.FULL).refused("write 0 1", Edge.FULL).refused("write 0 9999", Edge.FULL);
        edge.refused("write 0 10000", Edge.OUTSIDE).refused("write 0 -1", Edge.OUTSIDE);
        edge.refused("write 5 0", Edge.UNKNOWN).refused("write 5 10000", Edge.UNKNOWN).refused("write -1 0", Edge.UNKNOWN);
        edge.due("judge", Edge.NONE).due("tear", 20).due("write 0 1", 1).due("judge", 0);
        // the twentieth is judged as the first is
        Edge.of(Check.RING).times(19, "write 4 0").due("judge", Edge.NONE).due("write 4 1", 20).due("judge", 19);
    }

    /** "WRONG: the first that is otherwise now; NONE". */
    private static void judged() {
        Edge.fresh().due("judge", Edge.NONE);
        Edge edge = Edge.of("k1 1;m9 0;t1 0 1;t1 0 1;").due("judge", Edge.NONE).does("write 0 9", "write 1 0").due("judge", 0);
        edge.does("seat 0").due("judge", 0).does("tell 0").due("judge", Edge.NONE).does("rise").due("judge", Edge.NONE);
        edge.does("seat 1").due("judge", Edge.NONE).does("tell 0").due("judge", 1).does("undo 1").due("judge", Edge.NONE);
        edge.does("anew").due("judge", 0);
        Edge.of("k1 1;m9 0;t1 0 1;").does("seat 0", "tell 0", "write 0 8").due("judge", 0).does("tear", "write 0 10").due("judge", 0);
    }

    /** Promise 25: "Nothing STAYED, no BOOK: how much both had". */
    private static void torn() {
        Edge.fresh().due("tear", 0).due("tear", 0);
        Edges.storyOpen().due("tear", 2).due("told 18", 0).due("told 19", 0).due("tear", 0).due("told 20", 3);
        Edge.of("k1 1;t0 0 0;").times(6, "stayed 0 0").times(20, "write 0 0").due("tear", 26).due("stayed 0 0", 1).due("write 0 0", 1);
        Edge.of("k1 1;t0 0 0;").does("stayed 0 0").due("tear", 1).does("write 0 0").due("tear", 1);
    }

    /** Promise 26: "THE SEED becomes v (0 .. 2147483647)", "0 at first". */
    private static void seeds() {
        Edge.fresh().due("seed 2147483647", 0).due("seed 0", 2147483647).due("seed 1", 0).due("seed 2147483646", 1).due("seed 3", 2147483646);
        Edge.fresh().refusedFor("seed ?", Edge.OUTSIDE, -1, -2, Edge.LEAST, Edge.LEAST + 1);
        Edges.storyOpen().refusedFor("seed ?", Edge.OUTSIDE, -1, -2, Edge.LEAST, Edge.LEAST + 1).due("seed 0", 5);
    }

    /** "IMAGES 0, 1"; promise 27: "(nothing can be undone then): 1. UNKNOWN". */
    private static void keeping() {
        Edge edge = Edges.storyOpen();
        edge.refusedFor("keep ?", Edge.UNKNOWN, Edges.NEVER).refused("keep 2", Edge.UNKNOWN).due("told 20", 3);
        edge.due("keep 0", 1).due("told 20", 0).refused("undo 1", Edge.NOT).does("minute 1").due("keep 1", 1).due("told 20", 0);
        edge.due("goBack 0", 1).due("told 5", 95).due("goBack 1", 1).due("told 5", 96).due("told 4", 3);
        Edge.fresh().refused("keep 2", Edge.UNKNOWN).refused("keep -1", Edge.UNKNOWN).due("keep 0", 1).due("keep 1", 1);
    }

    /** Promise 28: "UNKNOWN, NOT: it was not kept". */
    private static void goingBack() {
        Edge edge = Edges.storyOpen();
        edge.refusedFor("goBack ?", Edge.UNKNOWN, Edges.NEVER).refused("goBack 2", Edge.UNKNOWN).due("told 20", 3);
        edge.due("goBack 0", 1).due("told 20", 0).due("told 5", 3).due("seed 0", 77).refused("undo 1", Edge.NOT);
        Edge none = Edge.of("k1 1;t0 0 0;").does("minute 1");
        none.refused("goBack 0", Edge.NOT).refused("goBack 1", Edge.NOT).refused("goBack 2", Edge.UNKNOWN).refused("goBack -1", Edge.UNKNOWN);
        none.due("keep 1", 1).does("minute 1").refused("goBack 0", Edge.NOT).due("goBack 1", 1).due("told 5", 1);
        Edge.fresh().refused("goBack 0", Edge.NOT).refused("goBack 1", Edge.NOT).refused("goBack 2", Edge.UNKNOWN);
    }

    /** Promise 3: "IMAGES .. are gone"; with a FAULT "all is as it was". */
    private static void imagesAndBridges() {
        Edges.story().feeds("x").due("bridge", -11).due("goBack 1", 1).due("told 5", 63).due("goBack 0", 1).due("told 5", 3);
        Edges.story().feeds("k1 1;").due("bridge", 0).refused("goBack 0", Edge.NOT).refused("goBack 1", Edge.NOT);
        Edges.story().due("bridge", 0).refused("goBack 0", Edge.NOT).refused("goBack 1", Edge.NOT);
    }

    /** "IMAGES 0, 1 keep all of section 2, THE SEED": and nothing else. */
    private static void whatImagesHold() {
        Edge edge = Edges.storyOpen().does("keep 0", "seed 8", "rise", "stayed 1 0", "write 0 0", "anew", "seat 2", "minute 60", "goBack 0");
        edge.dueRow("told", 10, 2, 3, 5, 3, 95, 1, 0, 5, 1, 1, 0, 21, 0, 8, 0, 1, 1, 2, 2, 0);
        edge.dueRow("traveller 0", 0, 3, 7, 0, 32, 13, 2).dueRow("traveller 1", 1, 0, 1, 30, 2, 0, 0).due("seed 0", 5);
        Edge passed = Edges.storyRisen().does("keep 1", "anew", "seat 0", "goBack 1").due("told 13", 2).due("told 7", 6).due("told 9", Edge.NONE);
        passed.due("told 12", 21).due("told 14", 8).due("traveller 1 3", 30);
        // an image stands as it is, however often one goes back to it
        edge.does("rise", "anew", "goBack 0").due("told 9", 1).due("told 6", 1).due("seed 0", 5);
    }
}
