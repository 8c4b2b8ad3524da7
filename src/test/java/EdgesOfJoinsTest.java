/** The boundary cases of the promises 9 to 13, a test for each sentence. */
public final class EdgesOfJoinsTest {
    private static final Check CHECK = new Check();

    public static void main(String[] args) {
        join();
        merge();
        group();
        whole();
        deltas();
        CHECK.end();
    }

    /** Joins something to replica 1: the DELTA that replica 0 made last, or the whole state of replica 0. */
    private interface Joining {
        long from(DotStores x);
    }

    private static long joinLast(DotStores x) {
        return x.join(1, x.deltas() - 1);
    }

    private static long mergeAll(DotStores x) {
        return x.merge(1, 0);
    }

    // ---- the sentences that join and merge have in common

    private static void becameAnother(String promise, Joining joining) {
        anotherByDots(promise, joining);
        anotherByTwice(promise, joining);
        anotherByTimed(promise, joining);
        notAnother(promise, joining);
    }

    private static void once(String what, DotStores x, Joining joining) {
        CHECK.due(what, 1, () -> joining.from(x));
        CHECK.due(what + ", again", 0, () -> joining.from(x));
    }

    private static void anotherByDots(String promise, Joining joining) {
        CHECK.sentence(promise + " whether that became another one: SEEN or LIVE");
        DotStores x = new DotStores();
        x.element(0, 0, 1, true);
        once("SEEN and LIVE", x, joining);
        x.element(0, 0, 1, false);
        once("not LIVE any more, SEEN before", x, joining);
        CHECK.due("SEEN is as it was", 1, () -> x.size(1, 1));
        CHECK.due("LIVE is not", 0, () -> x.size(1, 0));
        DotStores y = new DotStores();
        y.element(0, 0, 1, true);
        y.element(0, 0, 1, false);
        once("SEEN alone", y, joining);
        CHECK.due("SEEN", 1, () -> y.size(1, 1));
        CHECK.due("not LIVE", 0, () -> y.size(1, 0));
    }

    private static void anotherByTwice(String promise, Joining joining) {
        CHECK.sentence(promise + " whether that became another one: TWICE");
        DotStores x = new DotStores();
        x.twice(0, 31, true);
        once("put", x, joining);
        x.twice(0, 31, false);
        once("taken", x, joining);
        x.twice(0, 0, false);
        once("taken, not put", x, joining);
        x.twice(0, 0, true);
        once("put, though taken", x, joining);
    }

    private static void anotherByTimed(String promise, Joining joining) {
        CHECK.sentence(promise + " whether that became another one: TIMED");
        DotStores x = new DotStores();
        x.timed(0, 31, 0, false);
        once("the least there is", x, joining);
        x.timed(0, 31, 0, true);
        once("in alone", x, joining);
        x.timed(0, 31, 1, true);
        once("the TIME alone", x, joining);
        x.timed(2, 31, 1, true);
        x.join(0, 3);
        x.whole(0);
        once("the replica alone", x, joining);
        CHECK.due("it is that replica", 2, () -> x.inTimed(1, 31, 2));
    }

    private static void notAnother(String promise, Joining joining) {
        CHECK.sentence(promise + " whether that became another one: 0 by what is empty, or known");
        DotStores x = new DotStores();
        x.clear(0, 0);
        CHECK.due("an empty one to an empty one", 0, () -> joining.from(x));
        x.element(1, 0, 1, true);
        x.clear(0, 0);
        CHECK.due("an empty one to another", 0, () -> joining.from(x));
        CHECK.due("that is as it was", 1, () -> x.size(1, 0));
        DotStores y = Edge.someOfEach();
        y.whole(0);
        CHECK.due("what it has itself", 0, () -> joining.from(y));
        y.element(1, 0, 1, false);
        y.timed(1, 1, 2, false);
        y.twice(1, 1, false);
        y.whole(0);
        CHECK.due("what it has gone beyond", 0, () -> joining.from(y));
        CHECK.due("what was taken back stays so", 0, () -> y.has(1, 0, 1));
        CHECK.due("what was taken stays so", 0, () -> y.inTwice(1, 1));
        CHECK.due("the TIME stays", 2, () -> y.inTimed(1, 1, 1));
    }

    // ---- promise 9

    private static void join() {
        becameAnother("9 join", EdgesOfJoinsTest::joinLast);
        joinOfItsOwn();
        joinRefusedReplica();
        joinRefusedDelta();
        joinAt250();
    }

    private static void joinOfItsOwn() {
        CHECK.sentence("9 A DELTA is joined to a replica's state: its own");
        DotStores x = Edge.someOfEach();
        for (int d : Edge.upTo(6)) {
            CHECK.due("DELTA " + d, 0, () -> x.join(0, d));
        }
        Edge.unchanged(CHECK, x, 6, 4);
    }

    private static void joinRefusedReplica() {
        CHECK.sentence("9 join IndexOutOfBoundsException: the replica");
        DotStores x = new DotStores();
        x.element(3, 0, 1, true);
        for (int r : Edge.NO_REPLICA) {
            CHECK.refused("replica " + r, Edge.INDEX, () -> x.join(r, 0));
        }
        CHECK.due("no other replica has it", 0, () -> x.size(0, 1) + x.size(1, 1) + x.size(5, 1));
        CHECK.due("replica 0", 1, () -> x.join(0, 0));
        CHECK.due("replica 5", 1, () -> x.join(5, 0));
    }

    private static void joinRefusedDelta() {
        CHECK.sentence("9 join IndexOutOfBoundsException: the DELTA");
        DotStores x = new DotStores();
        CHECK.refused("none there at all", Edge.INDEX, () -> x.join(0, 0));
        x.element(3, 0, 1, true);
        x.element(3, 0, 2, true);
        for (int d : new int[] {-1, -2, Integer.MIN_VALUE, 2, 3, 249, 250, 251, Integer.MAX_VALUE}) {
            CHECK.refused("DELTA " + d, Edge.INDEX, () -> x.join(0, d));
        }
        CHECK.due("nothing was joined", 0, () -> x.size(0, 1));
        CHECK.due("nothing was made", 2, x::deltas);
        CHECK.due("the first", 1, () -> x.join(0, 0));
        CHECK.due("the last", 1, () -> x.join(0, 1));
    }

    private static void joinAt250() {
        CHECK.sentence("9 join: the last of 250, and none behind it");
        DotStores x = new DotStores();
        for (int d = 0; d < Edge.MOST_DELTAS; d++) {
            x.timed(0, 0, d, true);
        }
        CHECK.refused("DELTA 250", Edge.INDEX, () -> x.join(1, 250));
        CHECK.due("DELTA 249", 1, () -> x.join(1, 249));
        CHECK.due("it is the last", 249, () -> x.inTimed(1, 0, 1));
        CHECK.due("DELTA 0 is behind it", 0, () -> x.join(1, 0));
    }

    // ---- promise 10

    private static void merge() {
        becameAnother("10 merge", EdgesOfJoinsTest::mergeAll);
        mergeWithItself();
        mergeLeavesTheOther();
        mergeRefused();
    }

    private static void mergeWithItself() {
        CHECK.sentence("10 Replica q's state is joined to that of r: the same replica");
        DotStores x = Edge.someOfEach();
        for (int r : Edge.REPLICAS) {
            CHECK.due("replica " + r, 0, () -> x.merge(r, r));
        }
        Edge.unchanged(CHECK, x, 6, 4);
        DotStores y = new DotStores();
        CHECK.due("an empty one", 0, () -> y.merge(0, 0));
        y.element(0, 0, 1, true);
        CHECK.due("one with a dot", 0, () -> y.merge(0, 0));
        CHECK.due("it stays LIVE", 1, () -> y.size(0, 0));
    }

    private static void mergeLeavesTheOther() {
        CHECK.sentence("10 Replica q's state is joined to that of r: q's stays");
        DotStores x = new DotStores();
        x.element(0, 0, 1, true);
        x.twice(0, 1, true);
        x.timed(0, 1, 5, true);
        CHECK.due("an empty one is joined", 0, () -> x.merge(0, 1));
        CHECK.due("and stays empty", 1, () -> x.same(1, 5));
        CHECK.due("it takes all", 1, () -> x.merge(1, 0));
        x.element(1, 0, 2, true);
        x.twice(1, 2, true);
        x.timed(1, 2, 5, true);
        CHECK.due("its own changes stay its own: SET", 0, () -> x.has(0, 0, 2));
        CHECK.due("TWICE", 0, () -> x.inTwice(0, 2));
        CHECK.due("TIMED", 0, () -> x.inTimed(0, 2, 0));
    }

    private static void mergeRefused() {
        CHECK.sentence("10 merge IndexOutOfBoundsException");
        DotStores x = Edge.someOfEach();
        for (int r : Edge.NO_REPLICA) {
            CHECK.refused("to " + r, Edge.INDEX, () -> x.merge(r, 0));
            CHECK.refused("from " + r, Edge.INDEX, () -> x.merge(0, r));
            CHECK.refused("both " + r, Edge.INDEX, () -> x.merge(r, r));
        }
        Edge.unchanged(CHECK, x, 6, 4);
        x.element(5, 0, 9, true);
        CHECK.due("from 5 to 0", 1, () -> x.merge(0, 5));
        x.element(0, 0, 8, true);
        CHECK.due("from 0 to 5", 1, () -> x.merge(5, 0));
    }

    // ---- promise 11

    private static void group() {
        groupOfTwo();
        groupOfLikeOnes();
        groupOfEmptyOnes();
        groupLeavesReplicas();
        groupRefused();
        groupAt250();
    }

    private static void groupOfTwo() {
        CHECK.sentence("11 A new DELTA is two joined: which");
        DotStores x = new DotStores();
        x.write(0, 1, 4);
        x.write(0, 1, 5);
        x.twice(0, 31, true);
        x.twice(0, 31, false);
        x.timed(0, 31, 1, true);
        x.timed(0, 31, 2, false);
        CHECK.due("dots", 6, () -> x.group(0, 1));
        CHECK.due("TWICE", 7, () -> x.group(3, 2));
        CHECK.due("TIMED", 8, () -> x.group(4, 5));
        CHECK.due("groups", 9, () -> x.group(6, 7));
        CHECK.due("all", 10, () -> x.group(9, 8));
        CHECK.due("SEEN", 2, () -> x.size(Edge.ofDelta(10), 1));
        CHECK.due("LIVE", 1, () -> x.size(Edge.ofDelta(10), 0));
        CHECK.due("joined", 1, () -> x.join(1, 10));
        CHECK.due("nothing is missing, nothing is more", 1, () -> x.same(1, 0));
    }

    private static void groupOfLikeOnes() {
        CHECK.sentence("11 A new DELTA is two joined: one with itself");
        DotStores x = new DotStores();
        x.element(0, 0, 1, true);
        CHECK.due("the first with itself", 1, () -> x.group(0, 0));
        CHECK.due("SEEN", 1, () -> x.size(Edge.ofDelta(1), 1));
        CHECK.due("LIVE", 1, () -> x.size(Edge.ofDelta(1), 0));
        CHECK.due("the last with itself", 2, () -> x.group(1, 1));
        CHECK.due("LIVE", 1, () -> x.size(Edge.ofDelta(2), 0));
        CHECK.due("a replica has it already", 0, () -> x.join(0, 2));
    }

    private static void groupOfEmptyOnes() {
        CHECK.sentence("11 A new DELTA is two joined: empty ones");
        DotStores x = new DotStores();
        x.clear(0, 0);
        x.element(0, 0, 1, true);
        CHECK.due("two empty ones", 2, () -> x.group(0, 0));
        CHECK.due("an empty one", 0, () -> x.size(Edge.ofDelta(2), 1));
        CHECK.due("an empty one first", 3, () -> x.group(0, 1));
        CHECK.due("LIVE", 1, () -> x.size(Edge.ofDelta(3), 0));
        CHECK.due("an empty one last", 4, () -> x.group(1, 0));
        CHECK.due("LIVE", 1, () -> x.size(Edge.ofDelta(4), 0));
        CHECK.due("nothing to join", 0, () -> x.join(1, 2));
    }

    private static void groupLeavesReplicas() {
        CHECK.sentence("11 A new DELTA is two joined: no replica changes");
        DotStores x = new DotStores();
        x.element(0, 0, 1, true);
        x.element(1, 0, 2, true);
        x.group(0, 1);
        CHECK.due("SEEN by 0", 1, () -> x.size(0, 1));
        CHECK.due("SEEN by 1", 1, () -> x.size(1, 1));
        CHECK.due("SEEN by 2", 0, () -> x.size(2, 1));
        CHECK.due("SEEN in the first", 1, () -> x.size(Edge.ofDelta(0), 1));
        CHECK.due("SEEN in the second", 1, () -> x.size(Edge.ofDelta(1), 1));
    }

    private static void groupRefused() {
        CHECK.sentence("11 group IndexOutOfBoundsException");
        DotStores x = new DotStores();
        CHECK.refused("none there at all", Edge.INDEX, () -> x.group(0, 0));
        CHECK.due("nothing was made", 0, x::deltas);
        DotStores y = Edge.someOfEach();
        for (int d : new int[] {-1, -2, Integer.MIN_VALUE, 6, 7, 249, 250, 251, Integer.MAX_VALUE}) {
            CHECK.refused("the first " + d, Edge.INDEX, () -> y.group(d, 0));
            CHECK.refused("the second " + d, Edge.INDEX, () -> y.group(0, d));
            CHECK.refused("both " + d, Edge.INDEX, () -> y.group(d, d));
        }
        Edge.unchanged(CHECK, y, 6, 4);
        CHECK.due("the first and the last", 6, () -> y.group(0, 5));
        CHECK.due("the last and the first", 7, () -> y.group(6, 0));
    }

    private static void groupAt250() {
        CHECK.sentence("11 group IllegalStateException: there are 250");
        DotStores x = Edge.withoutDeltas();
        CHECK.refused("DELTA 250", Edge.FULL, () -> x.group(0, 1));
        CHECK.refused("one with itself", Edge.FULL, () -> x.group(249, 249));
        Edge.unchanged(CHECK, x, 250, 4);
        CHECK.due("the last is as it was", 0, () -> x.size(Edge.ofDelta(249), 1));
        CHECK.due("the first is as it was", 1, () -> x.size(Edge.ofDelta(0), 1));
        DotStores y = new DotStores();
        for (int d = 0; d < 249; d++) {
            y.clear(0, 0);
        }
        CHECK.due("DELTA 249", 249, () -> y.group(0, 248));
        CHECK.refused("DELTA 250", Edge.FULL, () -> y.group(0, 248));
    }

    // ---- promise 12

    private static void whole() {
        wholeOfEach();
        wholeOfAnEmptyOne();
        wholeLater();
        wholeRefused();
        wholeAt250();
    }

    private static void wholeOfEach() {
        CHECK.sentence("12 A new DELTA is a replica's whole state: which");
        DotStores x = Edge.someOfEach();
        x.element(5, 0, 1, false);
        x.timed(5, 31, Edge.LAST_TIME, true);
        x.twice(5, 31, false);
        CHECK.due("of replica 0", 9, () -> x.whole(0));
        CHECK.due("of replica 5", 10, () -> x.whole(5));
        CHECK.due("LIVE of 0", 4, () -> x.size(Edge.ofDelta(9), 0));
        CHECK.due("SEEN of 0", 4, () -> x.size(Edge.ofDelta(9), 1));
        CHECK.due("LIVE of 5", 3, () -> x.size(Edge.ofDelta(10), 0));
        CHECK.due("SEEN of 5", 4, () -> x.size(Edge.ofDelta(10), 1));
        CHECK.due("no replica changes", 0, () -> x.same(0, 5));
        CHECK.due("joined", 1, () -> x.join(0, 10));
        CHECK.due("nothing is missing, nothing is more", 1, () -> x.same(0, 5));
    }

    private static void wholeOfAnEmptyOne() {
        CHECK.sentence("12 A new DELTA is a replica's whole state: an empty one");
        DotStores x = new DotStores();
        CHECK.due("of replica 0", 0, () -> x.whole(0));
        CHECK.due("of replica 5", 1, () -> x.whole(5));
        CHECK.due("no dot", 0, () -> x.size(Edge.ofDelta(0), 1));
        CHECK.due("nothing to join", 0, () -> x.join(1, 1));
        CHECK.due("nothing came of it", 1, () -> x.same(1, 2));
    }

    private static void wholeLater() {
        CHECK.sentence("12 A new DELTA is a replica's whole state: as it was then");
        DotStores x = new DotStores();
        x.whole(0);
        x.element(0, 0, 1, true);
        x.twice(0, 1, true);
        x.timed(0, 1, 1, true);
        CHECK.due("it was empty", 0, () -> x.join(1, 0));
        x.whole(0);
        x.element(0, 0, 1, false);
        x.twice(0, 1, false);
        x.timed(0, 1, 1, false);
        x.timed(0, 1, 2, false);
        CHECK.due("it had something", 1, () -> x.join(1, 4));
        CHECK.due("the element", 1, () -> x.has(1, 0, 1));
        CHECK.due("put", 1, () -> x.inTwice(1, 1));
        CHECK.due("the TIME", 1, () -> x.inTimed(1, 1, 1));
    }

    private static void wholeRefused() {
        CHECK.sentence("12 whole IndexOutOfBoundsException");
        DotStores x = Edge.someOfEach();
        for (int r : Edge.NO_REPLICA) {
            CHECK.refused("replica " + r, Edge.INDEX, () -> x.whole(r));
        }
        Edge.unchanged(CHECK, x, 6, 4);
        CHECK.due("replica 0", 6, () -> x.whole(0));
        CHECK.due("replica 5", 7, () -> x.whole(5));
    }

    private static void wholeAt250() {
        CHECK.sentence("12 whole IllegalStateException: there are 250");
        DotStores x = Edge.withoutDeltas();
        for (int r : Edge.REPLICAS) {
            CHECK.refused("DELTA 250 of " + r, Edge.FULL, () -> x.whole(r));
        }
        Edge.unchanged(CHECK, x, 250, 4);
        CHECK.due("the last is as it was", 0, () -> x.size(Edge.ofDelta(249), 1));
        DotStores y = new DotStores();
        for (int d = 0; d < 249; d++) {
            y.clear(0, 0);
        }
        CHECK.due("DELTA 249", 249, () -> y.whole(3));
        CHECK.refused("DELTA 250", Edge.FULL, () -> y.whole(3));
    }

    // ---- promise 13

    private static void deltas() {
        CHECK.sentence("13 How many DELTAS there are: none");
        CHECK.due("of a new object", 0, () -> new DotStores().deltas());
        deltasByEachCall();
        deltasByRefusedCalls();
        deltasAtMost();
    }

    private static void deltasByEachCall() {
        CHECK.sentence("13 How many DELTAS there are: one more by each change, group and whole, none by a joining");
        DotStores x = Edge.someOfEach();
        CHECK.due("by six changes, and merges", 6, x::deltas);
        x.clear(0, 0);
        CHECK.due("by an empty one", 7, x::deltas);
        x.group(0, 0);
        CHECK.due("by a group", 8, x::deltas);
        x.whole(0);
        CHECK.due("by a whole", 9, x::deltas);
        x.join(1, 6);
        CHECK.due("by a join", 9, x::deltas);
        x.merge(2, 1);
        CHECK.due("by a merge", 9, x::deltas);
        x.below(0, 1);
        CHECK.due("by a question", 9, x::deltas);
    }

    private static void deltasByRefusedCalls() {
        CHECK.sentence("13 How many DELTAS there are: none more by what is refused");
        DotStores x = new DotStores();
        CHECK.refused("replica", Edge.INDEX, () -> x.element(6, 0, 0, true));
        CHECK.due("none", 0, x::deltas);
        CHECK.refused("kind", Edge.KIND, () -> x.element(0, 1, 0, true));
        CHECK.due("none", 0, x::deltas);
        CHECK.refused("time", Edge.TIME, () -> x.timed(0, 0, -1, true));
        CHECK.due("none", 0, x::deltas);
        CHECK.refused("group", Edge.INDEX, () -> x.group(0, 0));
        CHECK.due("none", 0, x::deltas);
        CHECK.refused("whole", Edge.INDEX, () -> x.whole(-1));
        CHECK.due("none", 0, x::deltas);
    }

    private static void deltasAtMost() {
        CHECK.sentence("13 How many DELTAS there are: 250");
        DotStores x = new DotStores();
        for (int d : Edge.upTo(Edge.MOST_DELTAS)) {
            x.twice(0, 0, true);
            if (d > 245) {
                CHECK.due("after " + d, d + 1, x::deltas);
            }
        }
        CHECK.refused("one more", Edge.FULL, () -> x.twice(0, 0, true));
        CHECK.due("250 all the same", 250, x::deltas);
    }
}
