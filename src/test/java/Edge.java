/** Inputs at and beyond the edges that the document names, objects at their edges, and the exceptions that are due. */
final class Edge {
    static final Class<IndexOutOfBoundsException> INDEX = IndexOutOfBoundsException.class;
    static final Class<UnsupportedOperationException> KIND = UnsupportedOperationException.class;
    static final Class<IllegalStateException> FULL = IllegalStateException.class;
    static final Class<IllegalArgumentException> TIME = IllegalArgumentException.class;

    static final int NONE = -1;
    static final int LAST_TIME = 1000000;
    static final int MOST_DELTAS = 250;
    static final int MOST_DOTS = 100;

    static final int[] REPLICAS = upTo(6);
    static final int[] KEYS = upTo(16);
    static final int[] PARTS = upTo(32);
    static final int[] NO_REPLICA = outside(6);
    static final int[] NO_KEY = outside(16);
    static final int[] NO_PART = outside(32);
    static final int[] NO_FLAG = {-1, -8, Integer.MIN_VALUE, 8, 9, 31, 32, Integer.MAX_VALUE};
    static final int[] NO_TIME = {-1, Integer.MIN_VALUE, LAST_TIME + 1, 357913942, Integer.MAX_VALUE};

    private Edge() {
    }

    static int[] upTo(int bound) {
        int[] all = new int[bound];
        for (int i = 0; i < bound; i++) {
            all[i] = i;
        }
        return all;
    }

    /** Too small and too large; among them those that a shift or a remainder would take for a right one. */
    static int[] outside(int bound) {
        return new int[] {-1, -bound, Integer.MIN_VALUE, bound, bound + 1, 2 * bound, 256, Integer.MAX_VALUE};
    }

    /** The number with which size is asked for a DELTA. */
    static int ofDelta(int d) {
        return NONE - 1 - d;
    }

    /** An object whose six replicas are the same: they have something of each sort, by 6 DELTAS and 4 dots of replica 0. */
    static DotStores someOfEach() {
        DotStores x = new DotStores();
        x.element(0, 0, 1, true);
        x.write(0, 1, 1);
        x.count(0, 2, 1);
        x.flag(0, 3, 1, true);
        x.twice(0, 1, true);
        x.timed(0, 1, 1, true);
        spread(x, 0);
        return x;
    }

    /** The same with 250 DELTAS. */
    static DotStores withoutDeltas() {
        DotStores x = someOfEach();
        for (int d = 6; d < MOST_DELTAS; d++) {
            x.twice(5, d % 2, true);
        }
        spread(x, 5);
        return x;
    }

    /** The same with 103 DELTAS, and no dot any more for replica 0. */
    static DotStores withoutDots() {
        DotStores x = someOfEach();
        for (int dot = 4; dot < MOST_DOTS; dot++) {
            x.element(0, 0, 1, true);
        }
        x.clear(0, 15);
        spread(x, 0);
        return x;
    }

    private static void spread(DotStores x, int r) {
        for (int q : REPLICAS) {
            x.merge(q, r);
        }
    }

    /** What holds of these objects as long as calls are refused. */
    static void unchanged(Check check, DotStores x, int deltas, int dots) {
        check.due("no DELTA came of it", deltas, x::deltas);
        check.due("no dot came of it", dots, () -> x.seen(0, 0, 2));
        check.due("the LIVE dots are as they were", 4, () -> x.size(0, 0));
        for (int r : REPLICAS) {
            check.due("SEEN by " + r + " is as it was", dots, () -> x.size(r, 1));
            check.due("the state of " + r + " is as it was", 1, () -> x.same(r, (r + 1) % 6));
        }
    }
}
