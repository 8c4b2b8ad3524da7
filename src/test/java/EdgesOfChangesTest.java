/** The boundary cases of the promises 1 to 8, a test for each sentence. */
public final class EdgesOfChangesTest {
    private static final Check CHECK = new Check();
    private static final boolean[] BOTH = {true, false};

    public static void main(String[] args) {
        newObject();
        element();
        write();
        count();
        flag();
        clear();
        twice();
        timed();
        CHECK.end();
    }

    private interface Change {
        long by(DotStores x, int r);
    }

    private interface ChangeOfKey {
        long of(DotStores x, int key);
    }

    // ---- the sentences that several promises have in common

    private static void refusedReplica(String promise, Change change) {
        CHECK.sentence(promise + " IndexOutOfBoundsException: replica");
        DotStores x = Edge.someOfEach();
        for (int r : Edge.NO_REPLICA) {
            CHECK.refused("replica " + r, Edge.INDEX, () -> change.by(x, r));
        }
        Edge.unchanged(CHECK, x, 6, 4);
        CHECK.due("replica 0", 6, () -> change.by(x, 0));
        CHECK.due("replica 5", 7, () -> change.by(x, 5));
    }

    private static void refusedKey(String promise, int first, int last, ChangeOfKey change) {
        CHECK.sentence(promise + " IndexOutOfBoundsException: key");
        DotStores x = Edge.someOfEach();
        for (int key : Edge.NO_KEY) {
            CHECK.refused("key " + key, Edge.INDEX, () -> change.of(x, key));
            // The remainder of such a key may be that of the right kind: it is no key all the same.
            CHECK.refused("key like " + key, Edge.INDEX, () -> change.of(x, key | first));
        }
        Edge.unchanged(CHECK, x, 6, 4);
        CHECK.due("key " + first, 6, () -> change.of(x, first));
        CHECK.due("key " + last, 7, () -> change.of(x, last));
    }

    private static void refusedKind(String promise, int kind, ChangeOfKey change) {
        CHECK.sentence(promise + " UnsupportedOperationException: the key is of another KIND");
        DotStores x = Edge.someOfEach();
        for (int key : Edge.KEYS) {
            if (key % 4 != kind) {
                CHECK.refused("key " + key, Edge.KIND, () -> change.of(x, key));
            }
        }
        Edge.unchanged(CHECK, x, 6, 4);
        for (int key = kind; key < 16; key += 4) {
            int k = key;
            CHECK.due("key " + k, 6 + k / 4, () -> change.of(x, k));
        }
    }

    private static void refusedAt250(String promise, Change change) {
        CHECK.sentence(promise + " IllegalStateException: there are 250");
        DotStores x = Edge.withoutDeltas();
        // Replica 5 is left alone, so that a change of the others would show.
        for (int r : Edge.upTo(5)) {
            CHECK.refused("DELTA 250 by " + r, Edge.FULL, () -> change.by(x, r));
        }
        Edge.unchanged(CHECK, x, 250, 4);
        DotStores y = new DotStores();
        for (int d = 0; d < 249; d++) {
            y.clear(0, 0);
        }
        CHECK.due("DELTA 249", 249, () -> change.by(y, 4));
        CHECK.refused("DELTA 250", Edge.FULL, () -> change.by(y, 4));
    }

    private static void refusedWithoutDot(String promise, Change change) {
        CHECK.sentence(promise + " IllegalStateException: no dot any more");
        DotStores x = Edge.withoutDots();
        CHECK.refused("dot 101", Edge.FULL, () -> change.by(x, 0));
        CHECK.refused("dot 101 once more", Edge.FULL, () -> change.by(x, 0));
        Edge.unchanged(CHECK, x, 103, 100);
        CHECK.due("another replica has dots", 103, () -> change.by(x, 1));
        DotStores y = new DotStores();
        for (int i = 0; i < 99; i++) {
            y.flag(4, 15, 0, true);
        }
        CHECK.due("dot 100", 99, () -> change.by(y, 4));
        CHECK.due("is the hundredth", 100, () -> y.seen(4, 4, 2));
        CHECK.refused("dot 101", Edge.FULL, () -> change.by(y, 4));
    }

    private static void needsNoDot(String promise, Change change) {
        CHECK.sentence(promise + " what makes no dot is not refused where there is no dot any more");
        DotStores x = Edge.withoutDots();
        CHECK.due("by the one without dots", 103, () -> change.by(x, 0));
        CHECK.due("once more", 104, () -> change.by(x, 0));
        CHECK.due("no dot came of it", 100, () -> x.seen(0, 0, 1));
    }

    // ---- promise 1

    private static void newObject() {
        sixReplicas();
        emptyReplicas();
        nothingPutOrTaken();
        noDeltas();
        objectsApart();
    }

    private static void sixReplicas() {
        CHECK.sentence("1 Six replicas");
        DotStores x = new DotStores();
        for (int r : Edge.REPLICAS) {
            CHECK.due("replica " + r, 0, () -> x.keys(r));
        }
        for (int r : Edge.NO_REPLICA) {
            CHECK.refused("replica " + r, Edge.INDEX, () -> x.keys(r));
        }
    }

    private static void emptyReplicas() {
        CHECK.sentence("1 Six empty replicas");
        DotStores x = new DotStores();
        for (int r : Edge.REPLICAS) {
            CHECK.due("no LIVE dot", 0, () -> x.size(r, 0));
            CHECK.due("no SEEN dot", 0, () -> x.size(r, 1));
            CHECK.due("no key", 0, () -> x.keys(r));
            for (int e : Edge.PARTS) {
                CHECK.due("not in TWICE", 0, () -> x.inTwice(r, e));
                CHECK.due("no TIME", Edge.NONE, () -> x.inTimed(r, e, 1));
            }
        }
        for (int q : Edge.REPLICAS) {
            CHECK.due("nothing to join", 0, () -> x.merge(0, q));
        }
    }

    private static void nothingPutOrTaken() {
        CHECK.sentence("1 Six empty replicas: nothing was taken");
        DotStores x = new DotStores();
        for (int r : Edge.REPLICAS) {
            for (int e : Edge.PARTS) {
                x.twice(r, e, true);
                CHECK.due("put and not taken", 1, () -> x.inTwice(r, e));
            }
        }
    }

    private static void noDeltas() {
        CHECK.sentence("1 no DELTAS");
        DotStores x = new DotStores();
        CHECK.due("none", 0, x::deltas);
        CHECK.refused("none to join", Edge.INDEX, () -> x.join(0, 0));
        CHECK.refused("none to group", Edge.INDEX, () -> x.group(0, 0));
        CHECK.refused("none with a size", Edge.INDEX, () -> x.size(Edge.ofDelta(0), 0));
    }

    private static void objectsApart() {
        CHECK.sentence("1 A new object is empty, whatever others have");
        DotStores x = Edge.someOfEach();
        DotStores y = new DotStores();
        CHECK.due("no DELTA", 0, y::deltas);
        CHECK.due("no dot", 0, () -> y.size(0, 1));
        CHECK.due("the first DELTA", 0, () -> y.element(0, 0, 2, true));
        CHECK.due("the first dot", 1, () -> y.seen(0, 0, 2));
        CHECK.due("the other is as it was", 6, x::deltas);
        CHECK.due("without that element", 0, () -> x.has(0, 0, 2));
    }

    // ---- promise 2

    private static void element() {
        elementAddedAndRemoved();
        for (boolean on : BOTH) {
            String promise = on ? "2 element on" : "2 element off";
            refusedReplica(promise, (x, r) -> x.element(r, 0, 1, on));
            refusedKey(promise, 0, 12, (x, key) -> x.element(0, key, 1, on));
            elementRefused(promise, on);
            refusedKind(promise, 0, (x, key) -> x.element(0, key, 1, on));
            refusedAt250(promise, (x, r) -> x.element(r, 0, 1, on));
        }
        refusedWithoutDot("2 element on", (x, r) -> x.element(r, 0, 1, true));
        needsNoDot("2 element off", (x, r) -> x.element(r, 0, 1, false));
    }

    private static void elementAddedAndRemoved() {
        CHECK.sentence("2 add (on) or remove an element: the DELTA");
        DotStores x = new DotStores();
        int due = 0;
        for (int key : new int[] {0, 12}) {
            for (int e : new int[] {0, 31}) {
                int d = due;
                CHECK.due("remove what is not there", d, () -> x.element(5, key, e, false));
                CHECK.due("add", d + 1, () -> x.element(5, key, e, true));
                CHECK.due("there", 1, () -> x.has(5, key, e));
                CHECK.due("add what is there", d + 2, () -> x.element(5, key, e, true));
                CHECK.due("still there", 1, () -> x.has(5, key, e));
                CHECK.due("remove", d + 3, () -> x.element(5, key, e, false));
                CHECK.due("gone", 0, () -> x.has(5, key, e));
                CHECK.due("add once more", d + 4, () -> x.element(5, key, e, true));
                CHECK.due("there once more", 1, () -> x.has(5, key, e));
                due += 5;
            }
        }
        CHECK.due("four elements", 4, () -> x.size(5, 0));
        CHECK.due("twelve dots", 12, () -> x.size(5, 1));
    }

    private static void elementRefused(String promise, boolean on) {
        CHECK.sentence(promise + " IndexOutOfBoundsException: element");
        DotStores x = Edge.someOfEach();
        for (int e : Edge.NO_PART) {
            CHECK.refused("element " + e, Edge.INDEX, () -> x.element(0, 0, e, on));
        }
        Edge.unchanged(CHECK, x, 6, 4);
        CHECK.due("element 0", 6, () -> x.element(0, 0, 0, on));
        CHECK.due("element 31", 7, () -> x.element(0, 0, 31, on));
    }

    // ---- promise 3

    private static void write() {
        written();
        refusedReplica("3 write", (x, r) -> x.write(r, 1, 2));
        refusedKey("3 write", 1, 13, (x, key) -> x.write(0, key, 2));
        refusedKind("3 write", 1, (x, key) -> x.write(0, key, 2));
        refusedAt250("3 write", (x, r) -> x.write(r, 1, 2));
        refusedWithoutDot("3 write", (x, r) -> x.write(r, 1, 2));
    }

    private static void written() {
        CHECK.sentence("3 The REGISTER of a key is written: the DELTA");
        DotStores x = new DotStores();
        CHECK.due("nothing written yet", 0, () -> x.values(5, 13));
        CHECK.due("the least", 0, () -> x.write(5, 13, Long.MIN_VALUE));
        CHECK.due("it stands", Long.MIN_VALUE, () -> x.value(5, 13, 0));
        CHECK.due("the greatest", 1, () -> x.write(5, 13, Long.MAX_VALUE));
        CHECK.due("it stands", Long.MAX_VALUE, () -> x.value(5, 13, 0));
        CHECK.due("the same once more", 2, () -> x.write(5, 13, Long.MAX_VALUE));
        CHECK.due("by a new dot", 3, () -> x.size(5, 1));
        CHECK.due("alone", 1, () -> x.size(5, 0));
        CHECK.due("nothing is a VALUE, too", 3, () -> x.write(5, 13, 0));
        CHECK.due("it stands", 1, () -> x.values(5, 13));
        CHECK.due("it is 0", 0, () -> x.value(5, 13, 0));
    }

    // ---- promise 4

    private static void count() {
        counted();
        refusedReplica("4 count", (x, r) -> x.count(r, 2, 2));
        refusedKey("4 count", 2, 14, (x, key) -> x.count(0, key, 2));
        refusedKind("4 count", 2, (x, key) -> x.count(0, key, 2));
        refusedAt250("4 count", (x, r) -> x.count(r, 2, 2));
        refusedWithoutDot("4 count", (x, r) -> x.count(r, 2, 2));
    }

    private static void counted() {
        CHECK.sentence("4 The COUNTER of a key changes by x: the DELTA");
        DotStores x = new DotStores();
        CHECK.due("nothing counted yet", 0, () -> x.sum(5, 14));
        CHECK.due("by 0", 0, () -> x.count(5, 14, 0));
        CHECK.due("there is a dot", 1, () -> x.has(5, 14, 0));
        CHECK.due("to the greatest", 1, () -> x.count(5, 14, Long.MAX_VALUE));
        CHECK.due("is there", Long.MAX_VALUE, () -> x.sum(5, 14));
        CHECK.due("beyond it", 2, () -> x.count(5, 14, Long.MAX_VALUE));
        CHECK.due("wrapped", -2, () -> x.sum(5, 14));
        CHECK.due("to the least", 3, () -> x.count(5, 14, Long.MIN_VALUE + 2));
        CHECK.due("is there", Long.MIN_VALUE, () -> x.sum(5, 14));
        CHECK.due("beyond it", 4, () -> x.count(5, 14, -1));
        CHECK.due("wrapped", Long.MAX_VALUE, () -> x.sum(5, 14));
        CHECK.due("one dot all the time", 1, () -> x.size(5, 0));
    }

    // ---- promise 5

    private static void flag() {
        flagOnAndOff();
        for (boolean on : BOTH) {
            String promise = on ? "5 flag on" : "5 flag off";
            refusedReplica(promise, (x, r) -> x.flag(r, 3, 1, on));
            refusedKey(promise, 3, 15, (x, key) -> x.flag(0, key, 1, on));
            flagRefused(promise, on);
            refusedKind(promise, 3, (x, key) -> x.flag(0, key, 1, on));
            refusedAt250(promise, (x, r) -> x.flag(r, 3, 1, on));
        }
        refusedWithoutDot("5 flag on", (x, r) -> x.flag(r, 3, 1, true));
        needsNoDot("5 flag off", (x, r) -> x.flag(r, 3, 1, false));
    }

    private static void flagOnAndOff() {
        CHECK.sentence("5 A FLAG of the MAP of a key is on, or off: the DELTA");
        DotStores x = new DotStores();
        int due = 0;
        for (int key : new int[] {3, 15}) {
            for (int part : new int[] {0, 7}) {
                int d = due;
                CHECK.due("off what is off", d, () -> x.flag(5, key, part, false));
                CHECK.due("on", d + 1, () -> x.flag(5, key, part, true));
                CHECK.due("is on", 1, () -> x.has(5, key, part));
                CHECK.due("on what is on", d + 2, () -> x.flag(5, key, part, true));
                CHECK.due("is on", 1, () -> x.has(5, key, part));
                CHECK.due("off", d + 3, () -> x.flag(5, key, part, false));
                CHECK.due("is off", 0, () -> x.has(5, key, part));
                due += 4;
            }
        }
        CHECK.due("eight dots", 8, () -> x.size(5, 1));
        CHECK.due("all off", 0, () -> x.size(5, 0));
    }

    private static void flagRefused(String promise, boolean on) {
        CHECK.sentence(promise + " A FLAG (0 .. 7); IndexOutOfBoundsException");
        DotStores x = Edge.someOfEach();
        for (int part : Edge.NO_FLAG) {
            CHECK.refused("flag " + part, Edge.INDEX, () -> x.flag(0, 3, part, on));
        }
        Edge.unchanged(CHECK, x, 6, 4);
        CHECK.due("flag 0", 6, () -> x.flag(0, 3, 0, on));
        CHECK.due("flag 7", 7, () -> x.flag(0, 3, 7, on));
    }

    // ---- promise 6

    private static void clear() {
        cleared();
        refusedReplica("6 clear", (x, r) -> x.clear(r, 0));
        refusedKey("6 clear", 0, 15, (x, key) -> x.clear(0, key));
        clearOfEachKind();
        refusedAt250("6 clear", (x, r) -> x.clear(r, 0));
        needsNoDot("6 clear", (x, r) -> x.clear(r, 0));
    }

    private static void cleared() {
        CHECK.sentence("6 A key is cleared: the DELTA");
        DotStores x = new DotStores();
        CHECK.due("a key without dots", 0, () -> x.clear(5, 0));
        x.element(5, 0, 0, true);
        x.element(5, 0, 31, true);
        x.element(5, 4, 0, true);
        CHECK.due("a key with dots", 4, () -> x.clear(5, 0));
        CHECK.due("nothing is left of it", 0, () -> x.values(5, 0));
        CHECK.due("the other key stays", 1 << 4, () -> x.keys(5));
        CHECK.due("a key that was cleared", 5, () -> x.clear(5, 0));
        CHECK.due("what was taken back stays SEEN", 3, () -> x.size(5, 1));
        CHECK.due("it can be used again", 6, () -> x.element(5, 0, 0, true));
        CHECK.due("and has it", 1, () -> x.has(5, 0, 0));
    }

    private static void clearOfEachKind() {
        CHECK.sentence("6 A key is cleared: of any KIND");
        DotStores x = Edge.someOfEach();
        for (int key : Edge.KEYS) {
            CHECK.due("key " + key, 6 + key, () -> x.clear(0, key));
            CHECK.due("dots taken back", key < 4 ? 1 : 0, () -> x.size(Edge.ofDelta(6 + key), 1));
            CHECK.due("keys left", 0xf & (-2 << key), () -> x.keys(0));
        }
        CHECK.due("TWICE is no key", 1, () -> x.inTwice(0, 1));
        CHECK.due("nor is TIMED", 1, () -> x.inTimed(0, 1, 0));
    }

    // ---- promise 7

    private static void twice() {
        putAndTaken();
        for (boolean put : BOTH) {
            String promise = put ? "7 twice put" : "7 twice taken";
            refusedReplica(promise, (x, r) -> x.twice(r, 1, put));
            twiceRefused(promise, put);
            refusedAt250(promise, (x, r) -> x.twice(r, 2, put));
            needsNoDot(promise, (x, r) -> x.twice(r, 0, put));
        }
    }

    private static void putAndTaken() {
        CHECK.sentence("7 An element is put, or taken (for ever), in TWICE: the DELTA");
        DotStores x = new DotStores();
        int due = 0;
        for (int e : new int[] {0, 31}) {
            int d = due;
            CHECK.due("put", d, () -> x.twice(5, e, true));
            CHECK.due("put what was put", d + 1, () -> x.twice(5, e, true));
            CHECK.due("in", 1, () -> x.inTwice(5, e));
            CHECK.due("take", d + 2, () -> x.twice(5, e, false));
            CHECK.due("out", 0, () -> x.inTwice(5, e));
            CHECK.due("take what was taken", d + 3, () -> x.twice(5, e, false));
            CHECK.due("put what was taken", d + 4, () -> x.twice(5, e, true));
            CHECK.due("out for ever", 0, () -> x.inTwice(5, e));
            due += 5;
        }
        CHECK.due("no dots", 0, () -> x.size(5, 1));
    }

    private static void twiceRefused(String promise, boolean put) {
        CHECK.sentence(promise + " IndexOutOfBoundsException: element");
        DotStores x = Edge.someOfEach();
        for (int e : Edge.NO_PART) {
            CHECK.refused("element " + e, Edge.INDEX, () -> x.twice(0, e, put));
        }
        Edge.unchanged(CHECK, x, 6, 4);
        CHECK.due("element 0", 6, () -> x.twice(0, 0, put));
        CHECK.due("element 31", 7, () -> x.twice(0, 31, put));
    }

    // ---- promise 8

    private static void timed() {
        timedAtItsEdges();
        for (boolean in : BOTH) {
            String promise = in ? "8 timed in" : "8 timed out";
            refusedReplica(promise, (x, r) -> x.timed(r, 1, 1, in));
            timedElementRefused(promise, in);
            timeRefused(promise, in);
            refusedAt250(promise, (x, r) -> x.timed(r, 0, 1, in));
            needsNoDot(promise, (x, r) -> x.timed(r, 0, 1, in));
        }
    }

    private static void timedAtItsEdges() {
        CHECK.sentence("8 An element is in, or out, in TIMED by a TIME: the DELTA");
        DotStores x = new DotStores();
        int due = 0;
        for (int e : new int[] {0, 31}) {
            int d = due;
            CHECK.due("out by the first TIME", d, () -> x.timed(5, e, 0, false));
            CHECK.due("that is its TIME", 0, () -> x.inTimed(5, e, 1));
            CHECK.due("out", 0, () -> x.inTimed(5, e, 0));
            CHECK.due("in by the last TIME", d + 1, () -> x.timed(5, e, Edge.LAST_TIME, true));
            CHECK.due("that is its TIME", Edge.LAST_TIME, () -> x.inTimed(5, e, 1));
            CHECK.due("in", 1, () -> x.inTimed(5, e, 0));
            CHECK.due("an earlier one makes a DELTA, too", d + 2, () -> x.timed(5, e, Edge.LAST_TIME - 1, false));
            CHECK.due("which changes nothing", Edge.LAST_TIME, () -> x.inTimed(5, e, 1));
            CHECK.due("still in", 1, () -> x.inTimed(5, e, 0));
            CHECK.due("but where it is the only one", 1, () -> x.join(0, d + 2));
            CHECK.due("has its TIME", Edge.LAST_TIME - 1, () -> x.inTimed(0, e, 1));
            due += 3;
        }
        CHECK.due("no dots", 0, () -> x.size(5, 1));
    }

    private static void timedElementRefused(String promise, boolean in) {
        CHECK.sentence(promise + " IndexOutOfBoundsException: element");
        DotStores x = Edge.someOfEach();
        for (int e : Edge.NO_PART) {
            CHECK.refused("element " + e, Edge.INDEX, () -> x.timed(0, e, 9, in));
        }
        Edge.unchanged(CHECK, x, 6, 4);
        CHECK.due("element 0", 6, () -> x.timed(0, 0, 9, in));
        CHECK.due("element 31", 7, () -> x.timed(0, 31, 9, in));
    }

    private static void timeRefused(String promise, boolean in) {
        CHECK.sentence(promise + " IllegalArgumentException: the TIME");
        DotStores x = Edge.someOfEach();
        for (int time : Edge.NO_TIME) {
            CHECK.refused("time " + time, Edge.TIME, () -> x.timed(0, 1, time, in));
        }
        Edge.unchanged(CHECK, x, 6, 4);
        CHECK.due("the TIME is as it was", 1, () -> x.inTimed(0, 1, 1));
        CHECK.due("time 0", 6, () -> x.timed(0, 0, 0, in));
        CHECK.due("time 1000000", 7, () -> x.timed(0, 31, Edge.LAST_TIME, in));
    }
}
