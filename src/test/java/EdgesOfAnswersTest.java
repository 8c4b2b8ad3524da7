/** The boundary cases of the promises 14 to 24, a test for each sentence. */
public final class EdgesOfAnswersTest {
    private static final Check CHECK = new Check();
    private static final int[] NO_WHAT_OF_3 = {-1, -3, Integer.MIN_VALUE, 3, 4, Integer.MAX_VALUE};
    private static final int[] NO_WHAT_OF_2 = {-1, -2, Integer.MIN_VALUE, 2, 3, Integer.MAX_VALUE};

    public static void main(String[] args) {
        has();
        values();
        value();
        sum();
        keys();
        inTwice();
        inTimed();
        seen();
        size();
        same();
        below();
        questionsAt250Dots();
        CHECK.end();
    }

    private interface Question {
        long of(DotStores x, int argument);
    }

    /** Asks beyond the edges, looks whether this changed nothing, and asks at the edges. */
    private static void refused(String sentence, int[] beyond, int last, Question question) {
        CHECK.sentence(sentence);
        DotStores x = Edge.someOfEach();
        for (int argument : beyond) {
            CHECK.refused("with " + argument, Edge.INDEX, () -> question.of(x, argument));
        }
        Edge.unchanged(CHECK, x, 6, 4);
        answered("with 0", () -> question.of(x, 0));
        answered("with " + last, () -> question.of(x, last));
    }

    /** What is answered is looked at elsewhere: here it counts that the call is not refused. */
    private static void answered(String what, Check.Call call) {
        CHECK.due(what, 0, () -> 0 * call.run());
    }

    // ---- promise 14

    private static void has() {
        hasNone();
        hasOneOrMore();
        hasPartsBeyondTheKind();
        refused("14 has IndexOutOfBoundsException: replica", Edge.NO_REPLICA, 5, (x, r) -> x.has(r, 0, 1));
        refused("14 has IndexOutOfBoundsException: key", Edge.NO_KEY, 15, (x, key) -> x.has(0, key, 1));
        for (int key : Edge.upTo(4)) {
            String sentence = "14 has IndexOutOfBoundsException: part 0 .. 31, key " + key;
            refused(sentence, Edge.NO_PART, 31, (x, part) -> x.has(0, key, part));
        }
    }

    private static void hasNone() {
        CHECK.sentence("14 Whether a part of a key has a LIVE dot: none");
        DotStores x = new DotStores();
        for (int key : Edge.KEYS) {
            CHECK.due("key " + key + " part 0", 0, () -> x.has(0, key, 0));
            CHECK.due("key " + key + " part 31", 0, () -> x.has(5, key, 31));
        }
        x.element(0, 0, 1, true);
        x.element(0, 0, 1, false);
        CHECK.due("SEEN, not LIVE", 0, () -> x.has(0, 0, 1));
    }

    private static void hasOneOrMore() {
        CHECK.sentence("14 Whether a part of a key has a LIVE dot: one or more (1)");
        DotStores x = new DotStores();
        x.element(0, 12, 31, true);
        CHECK.due("one", 1, () -> x.has(0, 12, 31));
        for (int r = 1; r < 6; r++) {
            x.element(r, 12, 31, true);
            x.merge(0, r);
        }
        CHECK.due("six", 1, () -> x.has(0, 12, 31));
        CHECK.due("none of the part before", 0, () -> x.has(0, 12, 30));
        CHECK.due("none of the key before", 0, () -> x.has(0, 11, 31));
        CHECK.due("none of part 0", 0, () -> x.has(0, 12, 0));
    }

    private static void hasPartsBeyondTheKind() {
        CHECK.sentence("14 has: part 0 .. 31 of a key of any KIND");
        DotStores x = Edge.someOfEach();
        x.flag(0, 3, 7, true);
        x.flag(0, 3, 0, true);
        int[] dueParts = {1 << 1, 1, 1, 1 | 1 << 1 | 1 << 7};
        for (int key : Edge.upTo(4)) {
            for (int part : Edge.PARTS) {
                int due = dueParts[key] >>> part & 1;
                CHECK.due("key " + key + " part " + part, due, () -> x.has(0, key, part));
            }
        }
    }

    // ---- promise 15

    private static void values() {
        valuesNone();
        valuesDifferentOnes();
        valuesOfElements();
        valuesMany();
        refused("15 values IndexOutOfBoundsException: replica", Edge.NO_REPLICA, 5, (x, r) -> x.values(r, 1));
        refused("15 values IndexOutOfBoundsException: key", Edge.NO_KEY, 15, (x, key) -> x.values(0, key));
    }

    private static void valuesNone() {
        CHECK.sentence("15 How many VALUES a key has: none");
        DotStores x = new DotStores();
        for (int key : Edge.KEYS) {
            CHECK.due("key " + key, 0, () -> x.values(0, key));
        }
        x.write(0, 1, 3);
        x.clear(0, 1);
        CHECK.due("none is LIVE any more", 0, () -> x.values(0, 1));
    }

    private static void valuesDifferentOnes() {
        CHECK.sentence("15 How many VALUES a key has: different ones of its LIVE dots");
        DotStores x = new DotStores();
        long[] written = {7, 7, 7 + (1L << 32), -7, 7, -7};
        int[] due = {1, 1, 2, 3, 3, 3};
        for (int r : Edge.REPLICAS) {
            x.write(r, 13, written[r]);
            x.merge(0, r);
            CHECK.due("with that of " + r, due[r], () -> x.values(0, 13));
        }
        CHECK.due("of six dots", 6, () -> x.size(0, 0));
        CHECK.due("another key has none", 0, () -> x.values(0, 9));
    }

    private static void valuesOfElements() {
        CHECK.sentence("15 How many VALUES a key has: a SET and a MAP have the VALUE 0");
        DotStores x = new DotStores();
        x.element(0, 0, 0, true);
        x.element(0, 0, 31, true);
        x.flag(0, 3, 0, true);
        x.flag(0, 3, 7, true);
        CHECK.due("a SET", 1, () -> x.values(0, 0));
        CHECK.due("a MAP", 1, () -> x.values(0, 3));
    }

    private static void valuesMany() {
        CHECK.sentence("15 and 16: as many VALUES as there can be");
        DotStores x = new DotStores();
        for (int i = 0; i < 125; i++) {
            x.write(i / 100, 1, -i);
            x.clear(i / 100, 1);
            x.join(5, 2 * i);
        }
        CHECK.due("how many", 125, () -> x.values(5, 1));
        for (int i : Edge.upTo(125)) {
            CHECK.due("value " + i, i - 124, () -> x.value(5, 1, i));
        }
        CHECK.refused("none behind them", Edge.INDEX, () -> x.value(5, 1, 125));
    }

    // ---- promise 16

    private static void value() {
        valueLeastFirst();
        valueNoneSuch();
        refused("16 value IndexOutOfBoundsException: replica", Edge.NO_REPLICA, 5, (x, r) -> x.value(r, 1, 0));
        refused("16 value IndexOutOfBoundsException: key", Edge.NO_KEY, 3, (x, key) -> x.value(0, key, 0));
    }

    private static void valueLeastFirst() {
        CHECK.sentence("16 The i-th of these, the least first");
        DotStores x = new DotStores();
        long[] written = {0, Long.MAX_VALUE, -1, Long.MIN_VALUE, 1, 0};
        long[] ordered = {Long.MIN_VALUE, -1, 0, 1, Long.MAX_VALUE};
        for (int r : Edge.REPLICAS) {
            x.write(r, 1, written[r]);
            x.merge(0, r);
        }
        for (int i : Edge.upTo(5)) {
            CHECK.due("value " + i, ordered[i], () -> x.value(0, 1, i));
        }
        CHECK.due("of a replica with one", 1, () -> x.value(4, 1, 0));
    }

    private static void valueNoneSuch() {
        CHECK.sentence("16 value IndexOutOfBoundsException: there is none such, too");
        DotStores x = Edge.someOfEach();
        for (int i : new int[] {-1, Integer.MIN_VALUE, 1, 2, 249, 250, 251, Integer.MAX_VALUE}) {
            CHECK.refused("of one: " + i, Edge.INDEX, () -> x.value(0, 1, i));
        }
        CHECK.due("of one: 0", 1, () -> x.value(0, 1, 0));
        for (int i : new int[] {-1, 0, 1, Integer.MAX_VALUE}) {
            CHECK.refused("of none: " + i, Edge.INDEX, () -> x.value(0, 5, i));
        }
        x.write(0, 1, 2);
        x.write(1, 1, 3);
        x.merge(0, 1);
        CHECK.due("of two: 1", 3, () -> x.value(0, 1, 1));
        CHECK.refused("of two: 2", Edge.INDEX, () -> x.value(0, 1, 2));
        CHECK.refused("of one, when there were two", Edge.INDEX, () -> x.value(1, 1, 1));
        x.clear(0, 1);
        CHECK.refused("of none, when there were two", Edge.INDEX, () -> x.value(0, 1, 0));
    }

    // ---- promise 17

    private static void sum() {
        sumOfNone();
        sumOfAll();
        sumWraps();
        refused("17 sum IndexOutOfBoundsException: replica", Edge.NO_REPLICA, 5, (x, r) -> x.sum(r, 2));
        refused("17 sum IndexOutOfBoundsException: key", Edge.NO_KEY, 15, (x, key) -> x.sum(0, key));
    }

    private static void sumOfNone() {
        CHECK.sentence("17 The VALUES of all LIVE dots of a key together: none");
        DotStores x = new DotStores();
        for (int key : Edge.KEYS) {
            CHECK.due("key " + key, 0, () -> x.sum(5, key));
        }
        x.count(5, 2, 4);
        x.clear(5, 2);
        CHECK.due("none is LIVE any more", 0, () -> x.sum(5, 2));
    }

    private static void sumOfAll() {
        CHECK.sentence("17 The VALUES of all LIVE dots of a key together: like ones, too");
        DotStores x = new DotStores();
        for (int r : Edge.REPLICAS) {
            x.count(r, 14, 7);
            x.write(r, 13, 7);
            x.merge(0, r);
        }
        CHECK.due("of a counter", 42, () -> x.sum(0, 14));
        CHECK.due("of a register", 42, () -> x.sum(0, 13));
        CHECK.due("of one dot", 7, () -> x.sum(5, 14));
        x.element(0, 0, 1, true);
        x.flag(0, 3, 1, true);
        CHECK.due("of a set", 0, () -> x.sum(0, 0));
        CHECK.due("of a map", 0, () -> x.sum(0, 3));
    }

    private static void sumWraps() {
        CHECK.sentence("17 The VALUES of all LIVE dots of a key together (wrapping)");
        DotStores x = new DotStores();
        x.count(0, 2, Long.MAX_VALUE);
        x.count(1, 2, 1);
        x.count(2, 2, Long.MIN_VALUE);
        x.write(0, 1, Long.MIN_VALUE);
        x.write(1, 1, -1);
        CHECK.due("the greatest", Long.MAX_VALUE, () -> x.sum(0, 2));
        CHECK.due("the least", Long.MIN_VALUE, () -> x.sum(0, 1));
        x.merge(0, 1);
        CHECK.due("above the greatest", Long.MIN_VALUE, () -> x.sum(0, 2));
        CHECK.due("below the least", Long.MAX_VALUE, () -> x.sum(0, 1));
        x.merge(0, 2);
        CHECK.due("twice the least", 0, () -> x.sum(0, 2));
    }

    // ---- promise 18

    private static void keys() {
        keysNone();
        keysEach();
        refused("18 keys IndexOutOfBoundsException", Edge.NO_REPLICA, 5, (x, r) -> x.keys(r));
    }

    private static void keysNone() {
        CHECK.sentence("18 The keys that have a LIVE dot: none");
        DotStores x = new DotStores();
        CHECK.due("of an empty one", 0, () -> x.keys(5));
        x.twice(5, 0, true);
        x.timed(5, 0, 0, true);
        CHECK.due("TWICE and TIMED have no key", 0, () -> x.keys(5));
        x.flag(5, 15, 7, true);
        x.flag(5, 15, 7, false);
        CHECK.due("SEEN, not LIVE", 0, () -> x.keys(5));
    }

    private static void keysEach() {
        CHECK.sentence("18 The keys that have a LIVE dot (bit k key k): each, and all");
        DotStores x = new DotStores();
        for (int key : Edge.KEYS) {
            changeOf(x, key);
            CHECK.due("up to " + key, (2 << key) - 1, () -> x.keys(0));
        }
        for (int key : Edge.KEYS) {
            x.clear(0, key);
            CHECK.due("behind " + key, 0xffff & (-2 << key), () -> x.keys(0));
        }
    }

    private static void changeOf(DotStores x, int key) {
        switch (key % 4) {
            case 0 -> x.element(0, key, 31, true);
            case 1 -> x.write(0, key, -1);
            case 2 -> x.count(0, key, -1);
            default -> x.flag(0, key, 7, true);
        }
    }

    // ---- promise 19

    private static void inTwice() {
        CHECK.sentence("19 Whether an element is in TWICE: put, and not taken");
        DotStores x = new DotStores();
        for (int e : Edge.PARTS) {
            CHECK.due("neither " + e, 0, () -> x.inTwice(0, e));
            x.twice(0, e, true);
            CHECK.due("put " + e, 1, () -> x.inTwice(0, e));
            x.twice(1, e, false);
            CHECK.due("taken " + e, 0, () -> x.inTwice(1, e));
            x.join(0, 2 * e + 1);
            CHECK.due("both " + e, 0, () -> x.inTwice(0, e));
        }
        refused("19 inTwice IndexOutOfBoundsException: replica", Edge.NO_REPLICA, 5, (y, r) -> y.inTwice(r, 1));
        refused("19 inTwice IndexOutOfBoundsException: element", Edge.NO_PART, 31, (y, e) -> y.inTwice(0, e));
    }

    // ---- promise 20

    private static void inTimed() {
        inTimedWithout();
        inTimedOut();
        inTimedAtEachEdge();
        refused("20 inTimed IndexOutOfBoundsException: replica", Edge.NO_REPLICA, 5, (x, r) -> x.inTimed(r, 1, 0));
        refused("20 inTimed IndexOutOfBoundsException: element", Edge.NO_PART, 31, (x, e) -> x.inTimed(0, e, 0));
        refused("20 inTimed IndexOutOfBoundsException: what (0, 1, 2)", NO_WHAT_OF_3, 2, (x, w) -> x.inTimed(0, 1, w));
        refused("20 inTimed IndexOutOfBoundsException: what, without a TIME", NO_WHAT_OF_3, 2,
                (x, w) -> x.inTimed(0, 2, w));
    }

    private static void inTimedWithout() {
        CHECK.sentence("20 its TIME (NONE without) with what = 1, the replica with 2 (NONE)");
        DotStores x = new DotStores();
        CHECK.due("NONE", -1, () -> DotStores.NONE);
        for (int e : Edge.PARTS) {
            CHECK.due("not in " + e, 0, () -> x.inTimed(0, e, 0));
            CHECK.due("no TIME " + e, DotStores.NONE, () -> x.inTimed(0, e, 1));
            CHECK.due("no replica " + e, DotStores.NONE, () -> x.inTimed(0, e, 2));
        }
    }

    private static void inTimedOut() {
        CHECK.sentence("20 Whether an element is in by TIMED: out, with a TIME and a replica");
        DotStores x = new DotStores();
        x.timed(0, 0, 0, false);
        CHECK.due("out", 0, () -> x.inTimed(0, 0, 0));
        CHECK.due("TIME 0", 0, () -> x.inTimed(0, 0, 1));
        CHECK.due("replica 0", 0, () -> x.inTimed(0, 0, 2));
        CHECK.due("the next element has none", DotStores.NONE, () -> x.inTimed(0, 1, 1));
        CHECK.due("the next replica has none", DotStores.NONE, () -> x.inTimed(1, 0, 1));
    }

    private static void inTimedAtEachEdge() {
        CHECK.sentence("20 Whether an element is in by TIMED (1, 0); its TIME; the replica");
        DotStores x = new DotStores();
        int[] times = {0, 1, Edge.LAST_TIME - 1, Edge.LAST_TIME};
        for (int r : Edge.REPLICAS) {
            for (int i : Edge.upTo(8)) {
                int e = 31 - i;
                boolean in = i % 2 == 0;
                x.timed(r, e, times[i / 2], in);
                CHECK.due("in", in ? 1 : 0, () -> x.inTimed(r, e, 0));
                CHECK.due("TIME", times[i / 2], () -> x.inTimed(r, e, 1));
                CHECK.due("replica", r, () -> x.inTimed(r, e, 2));
            }
        }
    }

    // ---- promise 21

    private static void seen() {
        seenNone();
        seenWithoutAGap();
        seenFirstMissing();
        seenAll();
        seenTakenBack();
        refused("21 seen IndexOutOfBoundsException: r", Edge.NO_REPLICA, 5, (x, r) -> x.seen(r, 0, 0));
        refused("21 seen IndexOutOfBoundsException: q", Edge.NO_REPLICA, 5, (x, q) -> x.seen(0, q, 0));
        refused("21 seen IndexOutOfBoundsException: what", NO_WHAT_OF_3, 2, (x, what) -> x.seen(0, 0, what));
        refused("21 seen IndexOutOfBoundsException: what, without a dot", NO_WHAT_OF_3, 2, (x, what) -> x.seen(0, 5, what));
    }

    private static void seenDue(DotStores x, int r, int q, int unbroken, int all, int greatest) {
        CHECK.due("without a gap", unbroken, () -> x.seen(r, q, 0));
        CHECK.due("in all", all, () -> x.seen(r, q, 1));
        CHECK.due("the greatest", greatest, () -> x.seen(r, q, 2));
    }

    private static void seenNone() {
        CHECK.sentence("21 the greatest number (2; 0 without)");
        DotStores x = new DotStores();
        x.element(1, 0, 0, true);
        x.twice(0, 0, true);
        for (int q : Edge.REPLICAS) {
            seenDue(x, 0, q, 0, 0, 0);
        }
    }

    private static void seenWithoutAGap() {
        CHECK.sentence("21 How many of replica q's dots, from 1 on without a gap, r has SEEN");
        DotStores x = new DotStores();
        for (int i : Edge.upTo(5)) {
            x.element(5, 0, i, true);
        }
        x.join(0, 0);
        seenDue(x, 0, 5, 1, 1, 1);
        x.join(0, 2);
        seenDue(x, 0, 5, 1, 2, 3);
        x.join(0, 4);
        seenDue(x, 0, 5, 1, 3, 5);
        x.join(0, 1);
        seenDue(x, 0, 5, 3, 4, 5);
        x.join(0, 3);
        seenDue(x, 0, 5, 5, 5, 5);
        seenDue(x, 5, 5, 5, 5, 5);
        seenDue(x, 5, 0, 0, 0, 0);
    }

    private static void seenFirstMissing() {
        CHECK.sentence("21 from 1 on: 0 without the first");
        DotStores x = new DotStores();
        for (int i : Edge.upTo(4)) {
            x.element(3, 0, i, true);
        }
        x.join(0, 1);
        seenDue(x, 0, 3, 0, 1, 2);
        x.join(0, 2);
        x.join(0, 3);
        seenDue(x, 0, 3, 0, 3, 4);
        x.join(0, 0);
        seenDue(x, 0, 3, 4, 4, 4);
    }

    private static void seenAll() {
        CHECK.sentence("21 all of a replica's 100 dots, and all but one");
        DotStores x = new DotStores();
        for (int i = 0; i < Edge.MOST_DOTS; i++) {
            x.element(5, 0, i % 16, true);
        }
        seenDue(x, 5, 5, 100, 100, 100);
        x.join(0, 99);
        seenDue(x, 0, 5, 0, 2, 100);
        for (int i = 1; i < Edge.MOST_DOTS; i++) {
            x.join(1, i);
        }
        // The 17th takes back the first, so that one has been SEEN without its own DELTA.
        seenDue(x, 1, 5, 100, 100, 100);
        for (int i = 0; i < Edge.MOST_DOTS - 1; i++) {
            x.join(2, i);
        }
        seenDue(x, 2, 5, 99, 99, 99);
    }

    private static void seenTakenBack() {
        CHECK.sentence("21 SEEN, LIVE or not");
        DotStores x = new DotStores();
        x.element(0, 0, 1, true);
        x.element(0, 0, 1, true);
        x.clear(0, 0);
        seenDue(x, 0, 0, 2, 2, 2);
        x.join(1, 2);
        seenDue(x, 1, 0, 0, 1, 2);
        x.join(2, 1);
        seenDue(x, 2, 0, 2, 2, 2);
    }

    // ---- promise 22

    private static void size() {
        sizeNone();
        sizeOfReplicas();
        sizeOfDeltas();
        sizeOfTheLastDelta();
        sizeRefusedState();
        refused("22 size IndexOutOfBoundsException: what", NO_WHAT_OF_2, 1, (x, what) -> x.size(0, what));
        refused("22 size IndexOutOfBoundsException: what, of a DELTA", NO_WHAT_OF_2, 1,
                (x, what) -> x.size(Edge.ofDelta(0), what));
    }

    private static void sizeNone() {
        CHECK.sentence("22 How many LIVE dots, SEEN ones a replica's state has: none");
        DotStores x = new DotStores();
        x.twice(0, 0, true);
        x.timed(0, 0, 0, true);
        for (int r : Edge.REPLICAS) {
            CHECK.due("LIVE " + r, 0, () -> x.size(r, 0));
            CHECK.due("SEEN " + r, 0, () -> x.size(r, 1));
        }
        CHECK.due("LIVE in a DELTA", 0, () -> x.size(-2, 0));
        CHECK.due("SEEN in a DELTA", 0, () -> x.size(-2, 1));
    }

    private static void sizeOfReplicas() {
        CHECK.sentence("22 How many LIVE dots (what = 0), SEEN ones (1) a replica's state has");
        DotStores x = new DotStores();
        for (int i : Edge.upTo(Edge.MOST_DELTAS)) {
            x.element(i % 3, i / 32 % 4 * 4, i % 32, true);
        }
        for (int q : Edge.upTo(3)) {
            x.merge(5, q);
        }
        CHECK.due("SEEN: all there can be", 250, () -> x.size(5, 1));
        CHECK.due("of one", 84, () -> x.size(0, 1));
        CHECK.due("of a replica without", 0, () -> x.size(4, 1));
        // Within the 84 changes of one replica no element of a key comes twice, so nothing is taken back.
        DotStores y = new DotStores();
        for (int i : Edge.upTo(Edge.MOST_DELTAS)) {
            y.element(i / 84, i / 32 % 4 * 4, i % 32, true);
            y.join(5, i);
        }
        CHECK.due("LIVE: all there can be", 250, () -> y.size(5, 0));
    }

    private static void sizeOfDeltas() {
        CHECK.sentence("22 with r = NONE - 1 - d those of DELTA d");
        DotStores x = new DotStores();
        x.element(0, 0, 1, true);
        x.element(0, 0, 2, true);
        x.clear(0, 0);
        x.element(0, 0, 2, true);
        CHECK.due("LIVE in DELTA 0", 1, () -> x.size(-2, 0));
        CHECK.due("SEEN in DELTA 0", 1, () -> x.size(-2, 1));
        CHECK.due("LIVE in DELTA 2", 0, () -> x.size(-4, 0));
        CHECK.due("SEEN in DELTA 2", 2, () -> x.size(-4, 1));
        CHECK.due("LIVE in DELTA 3", 1, () -> x.size(-5, 0));
        CHECK.due("SEEN in DELTA 3", 1, () -> x.size(-5, 1));
        CHECK.refused("no DELTA 4", Edge.INDEX, () -> x.size(-6, 0));
    }

    private static void sizeOfTheLastDelta() {
        CHECK.sentence("22 with r = NONE - 1 - d: the last of 250");
        DotStores x = new DotStores();
        for (int d = 0; d < 247; d++) {
            x.clear(0, 0);
        }
        CHECK.refused("DELTA 249 is not yet there", Edge.INDEX, () -> x.size(-251, 1));
        x.write(0, 1, 1);
        x.write(0, 1, 2);
        x.whole(0);
        CHECK.due("SEEN in DELTA 249", 2, () -> x.size(-251, 1));
        CHECK.due("LIVE in DELTA 249", 1, () -> x.size(-251, 0));
        CHECK.due("SEEN in DELTA 247", 1, () -> x.size(-249, 1));
        CHECK.refused("DELTA 250", Edge.INDEX, () -> x.size(-252, 1));
    }

    private static void sizeRefusedState() {
        CHECK.sentence("22 size IndexOutOfBoundsException: none such");
        DotStores x = Edge.someOfEach();
        int[] none = {-1, 6, 7, 12, 256, Integer.MAX_VALUE, -8, -9, -251, -252, -253, Integer.MIN_VALUE,
            Integer.MIN_VALUE + 1, Integer.MIN_VALUE + 5};
        for (int r : none) {
            CHECK.refused("LIVE of " + r, Edge.INDEX, () -> x.size(r, 0));
            CHECK.refused("SEEN of " + r, Edge.INDEX, () -> x.size(r, 1));
        }
        CHECK.due("of DELTA 5", 0, () -> x.size(-7, 1));
        CHECK.due("of replica 5", 4, () -> x.size(5, 1));
        CHECK.refused("of a new object", Edge.INDEX, () -> new DotStores().size(-2, 0));
    }

    // ---- promise 23

    private static void same() {
        sameEmptyOnesAndItself();
        sameButOne();
        refused("23 same IndexOutOfBoundsException: r", Edge.NO_REPLICA, 5, (x, r) -> x.same(r, 0));
        refused("23 same IndexOutOfBoundsException: q", Edge.NO_REPLICA, 5, (x, q) -> x.same(0, q));
        refused("23 same IndexOutOfBoundsException: both", Edge.NO_REPLICA, 5, (x, r) -> x.same(r, r));
    }

    private static void sameEmptyOnesAndItself() {
        CHECK.sentence("23 Whether the states of two replicas are the same: empty ones, and one with itself");
        DotStores x = new DotStores();
        for (int r : Edge.REPLICAS) {
            for (int q : Edge.REPLICAS) {
                CHECK.due("empty " + r + " " + q, 1, () -> x.same(r, q));
            }
        }
        x.element(0, 0, 1, true);
        x.twice(0, 1, true);
        x.timed(0, 1, 1, true);
        CHECK.due("itself", 1, () -> x.same(0, 0));
        CHECK.due("and an empty one", 0, () -> x.same(0, 1));
        CHECK.due("an empty one and it", 0, () -> x.same(1, 0));
    }

    private static void sameButOne() {
        CHECK.sentence("23 Whether the states of two replicas are the same: all but one thing");
        differ("SEEN and LIVE", x -> x.element(1, 0, 1, true));
        differ("LIVE alone", x -> x.element(1, 0, 1, false));
        for (int e : new int[] {0, 2, 30, 31}) {
            differ("put alone " + e, x -> x.twice(1, e, true));
            differ("taken alone " + e, x -> x.twice(1, e, false));
            differ("TIMED, of one that has none " + e, x -> x.timed(1, e, 0, false));
        }
        differ("taken alone, where it was put", x -> x.twice(1, 1, false));
        differ("TIMED, the TIME alone", x -> x.timed(0, 31, 5, true) + x.join(1, 6) + x.timed(0, 31, 6, true));
        differ("TIMED, the replica alone", x -> x.timed(0, 31, 5, true) + x.join(1, 6) + x.timed(1, 31, 5, true));
        differ("TIMED, in alone", x -> x.timed(1, 31, 5, false) + x.join(0, 6) + x.timed(1, 31, 5, true));
        differ("SEEN alone", x -> x.element(1, 0, 9, true) + x.element(1, 0, 9, false));
    }

    private interface Difference {
        long in(DotStores x);
    }

    /** Makes the states of the replicas 0 and 1 differ in one thing alone. */
    private static void differ(String what, Difference difference) {
        DotStores x = Edge.someOfEach();
        CHECK.due(what + ": before", 1, () -> x.same(0, 1));
        difference.in(x);
        CHECK.due(what, 0, () -> x.same(0, 1));
        CHECK.due(what + ", the other way", 0, () -> x.same(1, 0));
        x.merge(0, 1);
        x.merge(1, 0);
        CHECK.due(what + ": joined", 1, () -> x.same(0, 1));
    }

    // ---- promise 24

    private static void below() {
        belowEmptyOnesAndItself();
        belowByOne();
        belowNeither();
        belowChangesNothing();
        refused("24 below IndexOutOfBoundsException: r", Edge.NO_REPLICA, 5, (x, r) -> x.below(r, 0));
        refused("24 below IndexOutOfBoundsException: q", Edge.NO_REPLICA, 5, (x, q) -> x.below(0, q));
        refused("24 below IndexOutOfBoundsException: both", Edge.NO_REPLICA, 5, (x, r) -> x.below(r, r));
    }

    private static void belowEmptyOnesAndItself() {
        CHECK.sentence("24 Whether the state of r is BELOW that of q: empty ones, and one with itself");
        DotStores x = new DotStores();
        for (int r : Edge.REPLICAS) {
            for (int q : Edge.REPLICAS) {
                CHECK.due("empty " + r + " " + q, 1, () -> x.below(r, q));
            }
        }
        x.element(0, 0, 1, true);
        x.twice(0, 1, true);
        x.timed(0, 1, 1, true);
        CHECK.due("itself", 1, () -> x.below(0, 0));
        CHECK.due("an empty one", 1, () -> x.below(5, 0));
        CHECK.due("not below an empty one", 0, () -> x.below(0, 5));
    }

    private static void belowByOne() {
        CHECK.sentence("24 Whether the state of r is BELOW that of q: all but one thing");
        above("SEEN and LIVE", x -> x.element(1, 0, 9, true));
        above("not LIVE any more", x -> x.element(1, 0, 1, false));
        above("SEEN alone", x -> x.element(1, 0, 9, true) + x.element(1, 0, 9, false));
        for (int e : new int[] {0, 2, 30, 31}) {
            above("put alone " + e, x -> x.twice(1, e, true));
            above("taken alone " + e, x -> x.twice(1, e, false));
            above("TIMED, where there was nothing " + e, x -> x.timed(1, e, 0, false));
        }
        above("taken alone, where it was put", x -> x.twice(1, 1, false));
        above("TIMED, the TIME alone", x -> x.timed(1, 1, 1, false) + x.merge(0, 1) + x.timed(1, 1, 2, false));
        above("TIMED, the replica alone", x -> x.timed(0, 31, 5, true) + x.merge(1, 0) + x.timed(1, 31, 5, true));
        above("TIMED, in alone", x -> x.timed(1, 31, 5, false) + x.merge(0, 1) + x.timed(1, 31, 5, true));
    }

    /** Makes the state of replica 1 one that has gone beyond that of replica 0 in one thing alone. */
    private static void above(String what, Difference difference) {
        DotStores x = Edge.someOfEach();
        difference.in(x);
        CHECK.due(what + ": below", 1, () -> x.below(0, 1));
        CHECK.due(what + ": above", 0, () -> x.below(1, 0));
    }

    private static void belowNeither() {
        CHECK.sentence("24 Whether the state of r is BELOW that of q: neither of the other");
        DotStores x = Edge.someOfEach();
        x.element(0, 0, 1, true);
        x.element(1, 0, 1, true);
        x.twice(2, 30, true);
        x.twice(3, 31, true);
        x.timed(4, 30, 1, true);
        x.timed(5, 31, 1, true);
        for (int r : Edge.REPLICAS) {
            for (int q : Edge.REPLICAS) {
                CHECK.due(r + " below " + q, r == q ? 1 : 0, () -> x.below(r, q));
            }
        }
    }

    private static void belowChangesNothing() {
        CHECK.sentence("24 below changes neither state");
        DotStores x = new DotStores();
        x.element(0, 0, 1, true);
        x.twice(0, 1, true);
        x.timed(0, 1, 1, true);
        x.write(1, 1, 1);
        CHECK.due("not below", 0, () -> x.below(0, 1));
        CHECK.due("nor the other way", 0, () -> x.below(1, 0));
        CHECK.due("nor an empty one above", 0, () -> x.below(0, 5));
        CHECK.due("SEEN by 0", 1, () -> x.size(0, 1));
        CHECK.due("SEEN by 1", 1, () -> x.size(1, 1));
        CHECK.due("TWICE of 1", 0, () -> x.inTwice(1, 1));
        CHECK.due("TIMED of 1", 0, () -> x.inTimed(1, 1, 0));
        CHECK.due("the empty one", 1, () -> x.same(5, 4));
        CHECK.due("no DELTA", 4, x::deltas);
    }

    // ---- all of them

    /** Each DELTA with a dot of its own, the last one LIVE at its writer, every other one LIVE at replica 5. */
    private static void questionsAt250Dots() {
        CHECK.sentence("14 to 24 where there are as many dots as there can be");
        DotStores x = new DotStores();
        for (int d = 0; d < Edge.MOST_DELTAS; d++) {
            x.count(d / 100, 14, 1);
            if (d % 2 == 1) {
                x.join(5, d);
            }
        }
        CHECK.due("has", 1, () -> x.has(2, 14, 0));
        CHECK.due("has not", 0, () -> x.has(2, 14, 1));
        CHECK.due("values", 1, () -> x.values(2, 14));
        CHECK.due("value", 50, () -> x.value(2, 14, 0));
        CHECK.due("sum", 50, () -> x.sum(2, 14));
        CHECK.due("keys", 1 << 14, () -> x.keys(2));
        CHECK.due("size", 50, () -> x.size(2, 1));
        for (int q : Edge.upTo(3)) {
            int dots = q == 2 ? 50 : 100;
            seenDue(x, 5, q, dots, dots, dots);
        }
        CHECK.due("values of half of them", 50, () -> x.values(5, 14));
        CHECK.due("size of half of them", 125, () -> x.size(5, 0));
        CHECK.due("all SEEN", 250, () -> x.size(5, 1));
        CHECK.due("below", 0, () -> x.below(2, 0));
        CHECK.due("merge", 1, () -> x.merge(5, 2));
        CHECK.due("same", 0, () -> x.same(5, 2));
    }
}
