/** Runs from which the edge tests go on, and arguments that are out of every bound. */
final class Edges {
    /** What no TRAVELLER, MATTER or IMAGE is ever numbered, whatever the text: below 0, and beyond the most there can be. */
    static final int[] NEVER = {-1, -2, 8, 31, 32, 256, Edge.LEAST, Edge.MOST};

    private Edges() {
    }

    /**
     * An evening in its midst: 1 sits and was told 0, 0, 2 and 4 wait, 3 turned back; 0 and 2 are known; both images are
     * kept, three deeds can be undone, something stayed, an entry is written, the seed is 5.
     */
    static Edge story() {
        return Edge.of(Check.RING).does("seed 77", "minute 3", "keep 0", "learn 2", "anew", "keep 1", "seed 5",
            "minute 2", "seat 1", "tell 0", "stayed 0 27", "write 1 30");
    }

    /** The same with a text that is not at its end. */
    static Edge storyOpen() {
        return story().feeds("k1 ");
    }

    /** The same when nobody sits: 1 passed. */
    static Edge storyRisen() {
        return storyOpen().does("rise");
    }
}
