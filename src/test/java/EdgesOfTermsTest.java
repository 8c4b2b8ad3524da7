/** The boundary cases in 'What it is' and in 'Terms', a test for each sentence. */
public final class EdgesOfTermsTest {
    private static final Check CHECK = new Check();

    public static void main(String[] args) {
        calls512();
        states();
        joined();
        below();
        changes();
        deltas();
        CHECK.end();
    }

    private static void calls512() {
        CHECK.sentence("An object is used for at most 512 calls after it has been made");
        DotStores x = new DotStores();
        for (int d = 0; d < Edge.MOST_DELTAS; d++) {
            int r = d % 3;
            int due = d;
            CHECK.due("count", due, () -> x.count(r, 2, 1));
            CHECK.due("join", 1, () -> x.join(5, due));
        }
        for (int i = 0; i < 11; i++) {
            CHECK.due("deltas", 250, x::deltas);
        }
        CHECK.due("the 512th call", 250, () -> x.sum(5, 2));
    }

    // ---- 1 STATES

    private static void states() {
        replicas0To5();
        dotsFrom1On();
        liveIsSeen();
        keys0To15();
        parts0To31();
        valueIsALong();
        kindIsKeyModulo4();
        registerAndCounterHavePart0();
        flagsHaveParts0To7();
        twiceForEachElement();
        takenForEver();
        timedForEachElement();
        timedNothing();
    }

    private static void replicas0To5() {
        CHECK.sentence("REPLICAS 0 .. 5");
        DotStores x = new DotStores();
        for (int r : Edge.REPLICAS) {
            CHECK.due("a change by " + r, r, () -> x.element(r, 0, r, true));
        }
        for (int r : Edge.REPLICAS) {
            for (int q : Edge.REPLICAS) {
                CHECK.due("what " + q + " did is not with " + r, r == q ? 1 : 0, () -> x.has(r, 0, q));
            }
        }
        for (int r : Edge.NO_REPLICA) {
            CHECK.refused("a change by " + r, Edge.INDEX, () -> x.element(r, 0, 0, true));
        }
    }

    private static void dotsFrom1On() {
        CHECK.sentence("A DOT is a replica and a number from 1 on");
        DotStores x = new DotStores();
        for (int r : Edge.REPLICAS) {
            CHECK.due("no dot yet", 0, () -> x.seen(r, r, 2));
            x.write(r, 1, r);
            CHECK.due("the first is 1", 1, () -> x.seen(r, r, 2));
            CHECK.due("nothing is missing before it", 1, () -> x.seen(r, r, 0));
            x.merge(0, r);
        }
        CHECK.due("six dots, each with the number 1", 6, () -> x.size(0, 1));
        CHECK.due("each with a value of its own", 6, () -> x.values(0, 1));
    }

    private static void liveIsSeen() {
        CHECK.sentence("LIVE, a set of dots that are SEEN");
        DotStores x = new DotStores();
        x.element(0, 0, 1, true);
        x.element(0, 0, 2, true);
        x.join(1, 1);
        CHECK.due("live in the DELTA", 1, () -> x.size(Edge.ofDelta(1), 0));
        CHECK.due("seen in the DELTA", 1, () -> x.size(Edge.ofDelta(1), 1));
        CHECK.due("live in the one that joined it", 1, () -> x.size(1, 0));
        CHECK.due("seen there, and no other with it", 1, () -> x.size(1, 1));
        CHECK.due("it is the second", 2, () -> x.seen(1, 0, 2));
    }

    private static void keys0To15() {
        CHECK.sentence("a KEY 0 .. 15");
        DotStores x = new DotStores();
        for (int key : Edge.KEYS) {
            CHECK.due("clear " + key, key, () -> x.clear(0, key));
            CHECK.due("sum " + key, 0, () -> x.sum(0, key));
        }
        for (int key : Edge.NO_KEY) {
            CHECK.refused("clear " + key, Edge.INDEX, () -> x.clear(0, key));
            CHECK.refused("sum " + key, Edge.INDEX, () -> x.sum(0, key));
        }
    }

    private static void parts0To31() {
        CHECK.sentence("a PART 0 .. 31");
        DotStores x = new DotStores();
        for (int e : Edge.PARTS) {
            CHECK.due("not there yet " + e, 0, () -> x.has(0, 12, e));
            CHECK.due("add " + e, e, () -> x.element(0, 12, e, true));
            CHECK.due("there " + e, 1, () -> x.has(0, 12, e));
        }
        for (int e : Edge.NO_PART) {
            CHECK.refused("add " + e, Edge.INDEX, () -> x.element(0, 12, e, true));
            CHECK.refused("has " + e, Edge.INDEX, () -> x.has(0, 12, e));
        }
        CHECK.due("each has a dot", 32, () -> x.size(0, 0));
    }

    private static void valueIsALong() {
        CHECK.sentence("a VALUE (a long)");
        DotStores x = new DotStores();
        long[] edges = {Long.MIN_VALUE, Long.MAX_VALUE, -1L << 32, 1L << 32, -1, 0, 1};
        for (long v : edges) {
            x.write(0, 1, v);
            CHECK.due("written", v, () -> x.value(0, 1, 0));
            CHECK.due("summed", v, () -> x.sum(0, 1));
        }
    }

    private static void kindIsKeyModulo4() {
        CHECK.sentence("The KIND of a key is key modulo 4");
        DotStores x = new DotStores();
        for (int key : Edge.KEYS) {
            kindDue(0, key, () -> x.element(0, key, 0, true));
            kindDue(1, key, () -> x.write(0, key, 0));
            kindDue(2, key, () -> x.count(0, key, 0));
            kindDue(3, key, () -> x.flag(0, key, 0, true));
        }
        CHECK.due("one call for each key was taken", 16, x::deltas);
        CHECK.due("each key has its dot", 0xffff, () -> x.keys(0));
    }

    private static void kindDue(int kind, int key, Check.Call call) {
        if (key % 4 == kind) {
            CHECK.due("kind " + kind + " key " + key, key, call);
        } else {
            CHECK.refused("kind " + kind + " key " + key, Edge.KIND, call);
        }
    }

    private static void registerAndCounterHavePart0() {
        CHECK.sentence("1 a REGISTER (part 0), 2 a COUNTER (part 0)");
        DotStores x = new DotStores();
        x.write(0, 13, 7);
        x.count(0, 14, 7);
        for (int part : Edge.PARTS) {
            CHECK.due("register part " + part, part == 0 ? 1 : 0, () -> x.has(0, 13, part));
            CHECK.due("counter part " + part, part == 0 ? 1 : 0, () -> x.has(0, 14, part));
        }
    }

    private static void flagsHaveParts0To7() {
        CHECK.sentence("3 a MAP of FLAGS (parts 0 .. 7)");
        DotStores x = new DotStores();
        for (int part : Edge.upTo(8)) {
            CHECK.due("on " + part, part, () -> x.flag(0, 15, part, true));
        }
        for (int part : Edge.NO_FLAG) {
            CHECK.refused("on " + part, Edge.INDEX, () -> x.flag(0, 15, part, true));
        }
        for (int part : Edge.PARTS) {
            CHECK.due("has " + part, part < 8 ? 1 : 0, () -> x.has(0, 15, part));
        }
    }

    private static void twiceForEachElement() {
        CHECK.sentence("TWICE: for each element 0 .. 31 whether it was put, and whether it was taken");
        for (int e : Edge.PARTS) {
            DotStores x = new DotStores();
            x.twice(0, e, true);
            x.twice(1, e, false);
            for (int f : Edge.PARTS) {
                CHECK.due("put " + e + ", is " + f + " in", e == f ? 1 : 0, () -> x.inTwice(0, f));
                x.twice(1, f, true);
                CHECK.due("taken " + e + ", is " + f + " in", e == f ? 0 : 1, () -> x.inTwice(1, f));
            }
        }
    }

    private static void takenForEver() {
        CHECK.sentence("whether it was taken (for ever)");
        DotStores x = new DotStores();
        for (int e : new int[] {0, 31}) {
            x.twice(0, e, false);
            CHECK.due("taken before it was put", 0, () -> x.inTwice(0, e));
            x.twice(0, e, true);
            CHECK.due("put after that", 0, () -> x.inTwice(0, e));
            x.twice(1, e, true);
            CHECK.due("put apart", 1, () -> x.inTwice(1, e));
            x.merge(0, 1);
            CHECK.due("joined", 0, () -> x.inTwice(0, e));
            x.merge(1, 0);
            CHECK.due("joined the other way", 0, () -> x.inTwice(1, e));
            x.twice(1, e, true);
            CHECK.due("put once more", 0, () -> x.inTwice(1, e));
        }
    }

    private static void timedForEachElement() {
        CHECK.sentence("TIMED: for each element 0 .. 31 a TIME (0 .. 1000000), a replica, and whether it is in");
        DotStores x = new DotStores();
        for (int e : Edge.PARTS) {
            int time = e % 2 == 0 ? Edge.LAST_TIME - e : e;
            int r = e % 6;
            x.timed(r, e, time, e % 3 == 0);
            x.join(0, e);
        }
        for (int e : Edge.PARTS) {
            CHECK.due("in " + e, e % 3 == 0 ? 1 : 0, () -> x.inTimed(0, e, 0));
            CHECK.due("time of " + e, e % 2 == 0 ? Edge.LAST_TIME - e : e, () -> x.inTimed(0, e, 1));
            CHECK.due("replica of " + e, e % 6, () -> x.inTimed(0, e, 2));
        }
    }

    private static void timedNothing() {
        CHECK.sentence("TIMED: for each element 0 .. 31 nothing");
        DotStores x = new DotStores();
        x.timed(0, 15, 3, true);
        for (int e : Edge.PARTS) {
            CHECK.due("in " + e, e == 15 ? 1 : 0, () -> x.inTimed(0, e, 0));
            CHECK.due("time of " + e, e == 15 ? 3 : Edge.NONE, () -> x.inTimed(0, e, 1));
            CHECK.due("replica of " + e, e == 15 ? 0 : Edge.NONE, () -> x.inTimed(0, e, 2));
        }
    }

    // ---- JOINED

    private static void joined() {
        joinedSeen();
        joinedLiveInBoth();
        joinedLiveInOne();
        joinedSeenAndNotLiveInOne();
        joinedTwice();
        joinedGreaterTime();
        joinedGreaterReplica();
        joinedWhatIsIn();
        joinedSomethingBeforeNothing();
    }

    private static void joinedSeen() {
        CHECK.sentence("JOINED: SEEN is of both");
        DotStores x = new DotStores();
        x.element(0, 0, 1, true);
        x.element(0, 0, 1, false);
        x.element(1, 0, 2, true);
        x.merge(2, 0);
        CHECK.due("of an empty one and another", 1, () -> x.size(2, 1));
        x.merge(0, 3);
        CHECK.due("of one and an empty one", 1, () -> x.size(0, 1));
        x.merge(2, 1);
        CHECK.due("of two", 2, () -> x.size(2, 1));
        x.merge(2, 0);
        CHECK.due("what is in both is there once", 2, () -> x.size(2, 1));
    }

    private static void joinedLiveInBoth() {
        CHECK.sentence("JOINED: LIVE are the dots that are LIVE in both");
        DotStores x = new DotStores();
        x.write(0, 1, 5);
        x.join(1, 0);
        CHECK.due("nothing new", 0, () -> x.merge(0, 1));
        CHECK.due("it stays", 1, () -> x.size(0, 0));
        CHECK.due("with its value", 5, () -> x.value(0, 1, 0));
        x.group(0, 0);
        CHECK.due("in a group, too", 1, () -> x.size(Edge.ofDelta(1), 0));
    }

    private static void joinedLiveInOne() {
        CHECK.sentence("JOINED: and those LIVE in one that the other has not SEEN");
        DotStores x = new DotStores();
        x.element(0, 0, 1, true);
        x.element(1, 0, 1, true);
        CHECK.due("the other's comes", 1, () -> x.merge(0, 1));
        CHECK.due("and the own stays", 2, () -> x.size(0, 0));
        x.element(1, 0, 1, false);
        CHECK.due("taken back apart", 1, () -> x.merge(0, 1));
        CHECK.due("the own that the other has not seen stays", 1, () -> x.has(0, 0, 1));
        CHECK.due("alone", 1, () -> x.size(0, 0));
    }

    private static void joinedSeenAndNotLiveInOne() {
        CHECK.sentence("JOINED: a dot LIVE in one and SEEN, not LIVE, in the other is not LIVE");
        DotStores x = new DotStores();
        x.element(0, 0, 1, true);
        x.join(1, 0);
        x.element(1, 0, 1, false);
        CHECK.due("live joined to taken back", 0, () -> x.merge(1, 0));
        CHECK.due("it is not live", 0, () -> x.size(1, 0));
        CHECK.due("taken back joined to live", 1, () -> x.merge(0, 1));
        CHECK.due("it is not live", 0, () -> x.size(0, 0));
        x.group(0, 1);
        x.group(1, 0);
        CHECK.due("nor in a group", 0, () -> x.size(Edge.ofDelta(2), 0));
        CHECK.due("of either order", 0, () -> x.size(Edge.ofDelta(3), 0));
    }

    private static void joinedTwice() {
        CHECK.sentence("JOINED: TWICE: put, or taken, if it is so in one");
        DotStores x = new DotStores();
        x.twice(0, 31, true);
        CHECK.due("put in the other", 1, () -> x.merge(1, 0));
        CHECK.due("is put", 1, () -> x.inTwice(1, 31));
        CHECK.due("put in the own", 0, () -> x.merge(0, 5));
        CHECK.due("is put", 1, () -> x.inTwice(0, 31));
        x.twice(2, 31, false);
        CHECK.due("taken in the other", 1, () -> x.merge(1, 2));
        CHECK.due("is taken", 0, () -> x.inTwice(1, 31));
        CHECK.due("taken in the own", 1, () -> x.merge(2, 0));
        CHECK.due("is taken", 0, () -> x.inTwice(2, 31));
        CHECK.due("both ways the same", 1, () -> x.same(1, 2));
    }

    private static void joinedGreaterTime() {
        CHECK.sentence("JOINED: TIMED: what has the greater TIME");
        int[][] pairs = {{0, 1}, {41, 42}, {Edge.LAST_TIME - 1, Edge.LAST_TIME}, {0, Edge.LAST_TIME}};
        for (int[] pair : pairs) {
            // The lesser TIME has all else on its side: the greater replica, and it is in.
            timedWins(0, pair[1], false, 5, pair[0], true);
        }
    }

    private static void joinedGreaterReplica() {
        CHECK.sentence("JOINED: TIMED: of like ones the greater replica");
        for (int r = 1; r < 6; r++) {
            timedWins(r, 0, false, r - 1, 0, true);
            timedWins(r, Edge.LAST_TIME, false, r - 1, Edge.LAST_TIME, true);
        }
    }

    private static void joinedWhatIsIn() {
        CHECK.sentence("JOINED: TIMED: of like ones what is in");
        for (int r : Edge.REPLICAS) {
            DotStores x = new DotStores();
            x.timed(r, 0, 8, true);
            x.timed(r, 0, 8, false);
            CHECK.due("out after in", 1, () -> x.inTimed(r, 0, 0));
            x.timed(r, 31, 8, false);
            x.timed(r, 31, 8, true);
            CHECK.due("in after out", 1, () -> x.inTimed(r, 31, 0));
            x.group(1, 0);
            x.join((r + 1) % 6, 4);
            CHECK.due("in a group", 1, () -> x.inTimed((r + 1) % 6, 0, 0));
        }
    }

    private static void joinedSomethingBeforeNothing() {
        CHECK.sentence("JOINED: TIMED: something before nothing");
        DotStores x = new DotStores();
        x.timed(0, 0, 0, false);
        CHECK.due("the least there is", 1, () -> x.join(1, 0));
        CHECK.due("its TIME", 0, () -> x.inTimed(1, 0, 1));
        CHECK.due("its replica", 0, () -> x.inTimed(1, 0, 2));
        CHECK.due("nothing joined to it", 0, () -> x.merge(1, 2));
        CHECK.due("it stays", 0, () -> x.inTimed(1, 0, 1));
    }

    /** Of two that r and q make apart, that of r must be kept, whichever way they are joined. */
    private static void timedWins(int r, int time, boolean in, int q, int lesserTime, boolean lesserIn) {
        DotStores x = new DotStores();
        x.timed(r, 31, time, in);
        x.timed(q, 31, lesserTime, lesserIn);
        String what = "time " + time + " replica " + r;
        CHECK.due(what + " joined to the lesser", 1, () -> x.join(q, 0));
        CHECK.due(what + " stays", 0, () -> x.join(r, 1));
        for (int s : new int[] {r, q}) {
            CHECK.due(what + " whether in", in ? 1 : 0, () -> x.inTimed(s, 31, 0));
            CHECK.due(what + " its TIME", time, () -> x.inTimed(s, 31, 1));
            CHECK.due(what + " its replica", r, () -> x.inTimed(s, 31, 2));
        }
    }

    // ---- BELOW

    private static void below() {
        CHECK.sentence("A state is BELOW another one, if both joined are the other one");
        DotStores x = new DotStores();
        CHECK.due("empty, below empty", 1, () -> x.below(0, 1));
        x.element(0, 0, 1, true);
        CHECK.due("empty, below all", 1, () -> x.below(1, 0));
        CHECK.due("all, not below empty", 0, () -> x.below(0, 1));
        CHECK.due("each is below itself", 1, () -> x.below(0, 0));
        x.element(1, 0, 1, true);
        CHECK.due("apart: neither", 0, () -> x.below(0, 1));
        CHECK.due("apart: nor the other", 0, () -> x.below(1, 0));
        x.merge(1, 0);
        CHECK.due("what was joined is below", 1, () -> x.below(0, 1));
    }

    // ---- 2 CHANGES

    private static void changes() {
        joinedToItsOwn();
        oneAboveTheGreatest();
        hundredAtMost();
        takesBack();
        whatADeltaDoesNotTell();
        addWithoutAndWithDots();
        removeWithoutAndWithDots();
        writeWithoutAndWithDots();
        counterOfThisReplica();
        counterWraps();
        flagsOnAndOff();
        clearing();
    }

    private static void joinedToItsOwn() {
        CHECK.sentence("CHANGES make a DELTA, which is joined to its own");
        DotStores x = new DotStores();
        x.element(0, 0, 0, true);
        x.write(0, 1, 4);
        x.count(0, 2, 4);
        x.flag(0, 3, 0, true);
        x.twice(0, 0, true);
        x.timed(0, 0, 4, true);
        x.clear(0, 0);
        for (int d : Edge.upTo(7)) {
            CHECK.due("it has DELTA " + d, 0, () -> x.join(0, d));
            x.join(1, d);
        }
        CHECK.due("and no more than that", 1, () -> x.same(0, 1));
    }

    private static void oneAboveTheGreatest() {
        CHECK.sentence("a new dot is that replica's with a number one above the greatest of its dots that it has SEEN");
        DotStores x = new DotStores();
        x.element(4, 0, 1, true);
        CHECK.due("the first", 1, () -> x.seen(4, 4, 2));
        x.element(4, 0, 1, false);
        x.write(4, 1, 1);
        CHECK.due("one that was taken back counts", 2, () -> x.seen(4, 4, 2));
        x.clear(4, 1);
        x.count(4, 2, 1);
        CHECK.due("one that was cleared counts", 3, () -> x.seen(4, 4, 2));
        x.merge(3, 4);
        x.flag(3, 3, 1, true);
        CHECK.due("another's do not count", 1, () -> x.seen(3, 3, 2));
        x.merge(4, 3);
        x.flag(4, 3, 1, true);
        CHECK.due("nor do they here", 4, () -> x.seen(4, 4, 2));
        CHECK.due("no number is left out", 4, () -> x.seen(4, 4, 0));
    }

    private static void hundredAtMost() {
        CHECK.sentence("a number (100 at most)");
        DotStores x = new DotStores();
        for (int i = 0; i < Edge.MOST_DOTS; i++) {
            int d = i;
            CHECK.due("dot " + (d + 1), d, () -> x.write(5, 1, d));
        }
        CHECK.due("the hundredth", 100, () -> x.seen(5, 5, 2));
        CHECK.due("it is live", 99, () -> x.value(5, 1, 0));
        CHECK.refused("no other", Edge.FULL, () -> x.write(5, 1, 100));
        CHECK.due("still the hundredth", 100, () -> x.seen(5, 5, 2));
        CHECK.due("still live", 99, () -> x.value(5, 1, 0));
        for (int i = 0; i < Edge.MOST_DOTS; i++) {
            int d = 100 + i;
            CHECK.due("dot of 0", d, () -> x.write(0, 1, d));
        }
        CHECK.refused("no other of 0", Edge.FULL, () -> x.write(0, 1, 100));
        CHECK.due("but one of 1", 200, () -> x.write(1, 1, 0));
    }

    private static void takesBack() {
        CHECK.sentence("\"Takes back\" dots: they are SEEN in the DELTA, and not LIVE");
        DotStores x = new DotStores();
        x.element(0, 0, 1, true);
        x.element(0, 0, 1, false);
        CHECK.due("seen", 1, () -> x.size(Edge.ofDelta(1), 1));
        CHECK.due("not live", 0, () -> x.size(Edge.ofDelta(1), 0));
        CHECK.due("joined without the dot it takes back", 1, () -> x.join(1, 1));
        CHECK.due("seen there", 1, () -> x.seen(1, 0, 2));
        CHECK.due("not live there", 0, () -> x.size(1, 0));
        CHECK.due("nor when the dot comes late", 0, () -> x.join(1, 0));
        CHECK.due("nor then", 0, () -> x.has(1, 0, 1));
    }

    private static void whatADeltaDoesNotTell() {
        CHECK.sentence("What a DELTA does not tell is empty");
        DotStores x = new DotStores();
        x.twice(0, 7, true);
        x.timed(0, 7, 7, true);
        x.element(0, 0, 7, true);
        x.write(0, 1, 7);
        x.count(0, 2, 7);
        x.flag(0, 3, 7, true);
        x.clear(0, 15);
        for (int d : Edge.upTo(7)) {
            int dots = d >= 2 && d <= 5 ? 1 : 0;
            CHECK.due("dots SEEN in " + d, dots, () -> x.size(Edge.ofDelta(d), 1));
            CHECK.due("dots LIVE in " + d, dots, () -> x.size(Edge.ofDelta(d), 0));
        }
        aloneInADelta(x, 1, 0, 1, Edge.NONE, 0);
        aloneInADelta(x, 2, 1, 0, 7, 0);
        for (int d = 2; d <= 5; d++) {
            DotStores y = new DotStores();
            y.twice(0, 7, true);
            y.timed(0, 7, 7, true);
            changeOfKind(y, d - 2);
            aloneInADelta(y, 1, 2, 0, Edge.NONE, 1 << (d - 2));
        }
        CHECK.due("a DELTA that tells nothing", 0, () -> x.join(5, 6));
        CHECK.due("leaves an empty one empty", 1, () -> x.same(5, 4));
    }

    private static void changeOfKind(DotStores y, int kind) {
        if (kind == 0) {
            y.element(0, 0, 7, true);
        } else if (kind == 1) {
            y.write(0, 1, 7);
        } else if (kind == 2) {
            y.count(0, 2, 7);
        } else {
            y.flag(0, 3, 7, true);
        }
    }

    private static void aloneInADelta(DotStores x, int r, int d, int put, int time, int keys) {
        CHECK.due("DELTA " + d + " tells something", 1, () -> x.join(r, d));
        CHECK.due("DELTA " + d + " put", put, () -> x.inTwice(r, 7));
        CHECK.due("DELTA " + d + " TIME", time, () -> x.inTimed(r, 7, 1));
        CHECK.due("DELTA " + d + " keys", keys, () -> x.keys(r));
    }

    private static void addWithoutAndWithDots() {
        CHECK.sentence("add: the element's LIVE dots are taken back, a new dot is LIVE (SEEN, too) with it, VALUE 0");
        DotStores x = new DotStores();
        x.element(0, 0, 31, true);
        CHECK.due("nothing to take back", 1, () -> x.size(Edge.ofDelta(0), 1));
        CHECK.due("a new dot", 1, () -> x.size(Edge.ofDelta(0), 0));
        x.element(0, 0, 30, true);
        x.element(0, 4, 31, true);
        for (int r = 1; r < 6; r++) {
            x.element(r, 0, 31, true);
            x.merge(0, r);
        }
        x.element(0, 0, 31, true);
        CHECK.due("a dot of each replica, and the new one", 7, () -> x.size(Edge.ofDelta(8), 1));
        CHECK.due("the new one", 1, () -> x.size(Edge.ofDelta(8), 0));
        CHECK.due("the others' elements and keys stay", 3, () -> x.size(0, 0));
        CHECK.due("element 30 stays", 1, () -> x.has(0, 0, 30));
        CHECK.due("key 4 stays", 1, () -> x.has(0, 4, 31));
        CHECK.due("VALUE 0", 0, () -> x.value(0, 0, 0));
        CHECK.due("and no other", 1, () -> x.values(0, 0));
    }

    private static void removeWithoutAndWithDots() {
        CHECK.sentence("remove: the element's LIVE dots are taken back");
        DotStores x = new DotStores();
        x.element(0, 0, 0, false);
        CHECK.due("nothing to take back", 0, () -> x.size(Edge.ofDelta(0), 1));
        for (int r : Edge.REPLICAS) {
            x.element(r, 0, 0, true);
            x.merge(0, r);
        }
        x.element(0, 0, 1, true);
        x.element(0, 4, 0, true);
        x.element(0, 0, 0, false);
        CHECK.due("one of each replica", 6, () -> x.size(Edge.ofDelta(9), 1));
        CHECK.due("none is LIVE", 0, () -> x.size(Edge.ofDelta(9), 0));
        CHECK.due("the element is gone", 0, () -> x.has(0, 0, 0));
        CHECK.due("element 1 stays", 1, () -> x.has(0, 0, 1));
        CHECK.due("key 4 stays", 1, () -> x.has(0, 4, 0));
        x.element(0, 0, 0, false);
        CHECK.due("nothing is LIVE any more", 0, () -> x.size(Edge.ofDelta(10), 1));
    }

    private static void writeWithoutAndWithDots() {
        CHECK.sentence("write: all LIVE dots of the key are taken back, a new one is LIVE with the VALUE");
        DotStores x = new DotStores();
        x.write(0, 1, 3);
        CHECK.due("nothing to take back", 1, () -> x.size(Edge.ofDelta(0), 1));
        x.write(0, 5, 3);
        for (int r = 1; r < 6; r++) {
            x.write(r, 1, r % 2);
            x.merge(0, r);
        }
        x.write(0, 1, 9);
        CHECK.due("one of each replica, and the new one", 7, () -> x.size(Edge.ofDelta(7), 1));
        CHECK.due("the new one", 1, () -> x.size(Edge.ofDelta(7), 0));
        CHECK.due("one VALUE", 1, () -> x.values(0, 1));
        CHECK.due("the written one", 9, () -> x.value(0, 1, 0));
        CHECK.due("key 5 stays", 3, () -> x.value(0, 5, 0));
    }

    private static void counterOfThisReplica() {
        CHECK.sentence("by x: the LIVE dots of the key that are of this replica are taken back");
        DotStores x = new DotStores();
        x.count(0, 2, 10);
        CHECK.due("none of this replica yet", 1, () -> x.size(Edge.ofDelta(0), 1));
        x.count(1, 2, 100);
        x.merge(0, 1);
        x.count(0, 2, 1);
        CHECK.due("its own and the new one", 2, () -> x.size(Edge.ofDelta(2), 1));
        CHECK.due("the other's stays", 111, () -> x.sum(0, 2));
        x.count(0, 14, 5);
        CHECK.due("another key has none", 1, () -> x.size(Edge.ofDelta(3), 1));
        CHECK.due("and begins at nothing", 5, () -> x.sum(0, 14));
        x.clear(0, 2);
        x.count(0, 2, 3);
        CHECK.due("after clearing there is none", 1, () -> x.size(Edge.ofDelta(5), 1));
        CHECK.due("and it begins anew", 3, () -> x.sum(0, 2));
        x.merge(1, 0);
        x.clear(1, 2);
        x.merge(0, 1);
        x.count(0, 2, 4);
        CHECK.due("cleared by another", 4, () -> x.sum(0, 2));
    }

    private static void counterWraps() {
        CHECK.sentence("a new one is LIVE with their VALUES and x together (wrapping)");
        DotStores x = new DotStores();
        counted(x, 2, Long.MAX_VALUE, Long.MAX_VALUE);
        counted(x, 2, 1, Long.MIN_VALUE);
        counted(x, 2, -1, Long.MAX_VALUE);
        counted(x, 6, Long.MIN_VALUE, Long.MIN_VALUE);
        counted(x, 6, -1, Long.MAX_VALUE);
        counted(x, 10, Long.MIN_VALUE, Long.MIN_VALUE);
        counted(x, 10, Long.MIN_VALUE, 0);
        counted(x, 14, Integer.MAX_VALUE, Integer.MAX_VALUE);
        counted(x, 14, 1, 1L << 31);
        counted(x, 14, 0, 1L << 31);
    }

    private static void counted(DotStores x, int key, long by, long want) {
        x.count(3, key, by);
        CHECK.due("key " + key + " by " + by, want, () -> x.value(3, key, 0));
        CHECK.due("key " + key + " has one VALUE", 1, () -> x.values(3, key));
    }

    private static void flagsOnAndOff() {
        CHECK.sentence("FLAGS: on: as add; off: as remove");
        DotStores x = new DotStores();
        x.flag(0, 3, 7, false);
        CHECK.due("off: nothing to take back", 0, () -> x.size(Edge.ofDelta(0), 1));
        x.flag(0, 3, 7, true);
        CHECK.due("on: nothing to take back", 1, () -> x.size(Edge.ofDelta(1), 1));
        x.flag(0, 3, 0, true);
        x.flag(1, 3, 7, true);
        x.merge(0, 1);
        x.flag(0, 3, 7, true);
        CHECK.due("on again: both, and the new one", 3, () -> x.size(Edge.ofDelta(4), 1));
        CHECK.due("the new one", 1, () -> x.size(Edge.ofDelta(4), 0));
        CHECK.due("VALUE 0", 0, () -> x.sum(0, 3));
        x.flag(0, 3, 7, false);
        CHECK.due("off: the one", 1, () -> x.size(Edge.ofDelta(5), 1));
        CHECK.due("is off", 0, () -> x.has(0, 3, 7));
        CHECK.due("the other is on", 1, () -> x.has(0, 3, 0));
        x.merge(1, 0);
        CHECK.due("the off comes over", 0, () -> x.has(1, 3, 7));
    }

    private static void clearing() {
        CHECK.sentence("Clearing a key: all its LIVE dots are taken back");
        DotStores x = new DotStores();
        x.clear(0, 12);
        CHECK.due("nothing to take back", 0, () -> x.size(Edge.ofDelta(0), 1));
        x.element(0, 8, 31, true);
        for (int e : Edge.PARTS) {
            x.element(0, 12, e, true);
        }
        x.element(1, 12, 31, true);
        x.merge(0, 1);
        x.clear(0, 12);
        CHECK.due("of all parts and replicas", 33, () -> x.size(Edge.ofDelta(35), 1));
        CHECK.due("none is LIVE", 0, () -> x.size(Edge.ofDelta(35), 0));
        CHECK.due("the other key stays", 1 << 8, () -> x.keys(0));
        x.clear(0, 12);
        CHECK.due("nothing is LIVE any more", 0, () -> x.size(Edge.ofDelta(36), 1));
    }

    // ---- DELTAS

    private static void deltas() {
        emptyDeltaIsMade();
        numberedFrom0On();
        atMost250();
        neverChange();
    }

    private static void emptyDeltaIsMade() {
        CHECK.sentence("A DELTA that would be empty is made all the same");
        DotStores x = new DotStores();
        CHECK.due("remove", 0, () -> x.element(0, 0, 0, false));
        CHECK.due("off", 1, () -> x.flag(0, 3, 0, false));
        CHECK.due("clear", 2, () -> x.clear(0, 0));
        CHECK.due("whole", 3, () -> x.whole(0));
        CHECK.due("group", 4, () -> x.group(0, 1));
        CHECK.due("all are there", 5, x::deltas);
        for (int d : Edge.upTo(5)) {
            CHECK.due("no dot in " + d, 0, () -> x.size(Edge.ofDelta(d), 1));
            CHECK.due("nothing in " + d, 0, () -> x.join(1, d));
        }
    }

    private static void numberedFrom0On() {
        CHECK.sentence("DELTAS are numbered from 0 on");
        DotStores x = new DotStores();
        CHECK.due("the first", 0, () -> x.twice(3, 0, true));
        CHECK.due("the second, by another", 1, () -> x.element(4, 0, 0, true));
        CHECK.refused("a refused call", Edge.INDEX, () -> x.twice(3, 32, true));
        CHECK.refused("a refused call", Edge.KIND, () -> x.write(3, 0, 1));
        CHECK.refused("a refused call", Edge.TIME, () -> x.timed(3, 0, -1, true));
        CHECK.due("takes no number", 2, () -> x.group(0, 1));
        CHECK.due("of a new object", 0, () -> new DotStores().whole(0));
    }

    private static void atMost250() {
        CHECK.sentence("DELTAS: 250 at most");
        DotStores x = new DotStores();
        for (int d : Edge.upTo(Edge.MOST_DELTAS)) {
            CHECK.due("DELTA " + d, d, () -> x.clear(d % 6, d % 16));
        }
        CHECK.refused("one more", Edge.FULL, () -> x.clear(0, 0));
        CHECK.refused("and one more", Edge.FULL, () -> x.clear(5, 15));
        CHECK.due("250", 250, x::deltas);
        CHECK.due("the last is there", 0, () -> x.size(Edge.ofDelta(249), 1));
        CHECK.refused("and none behind it", Edge.INDEX, () -> x.size(Edge.ofDelta(250), 1));
    }

    private static void neverChange() {
        CHECK.sentence("DELTAS never change");
        DotStores x = new DotStores();
        x.element(0, 0, 1, true);
        x.twice(0, 1, true);
        x.timed(0, 1, 1, true);
        x.group(0, 1);
        x.whole(0);
        x.element(0, 0, 1, false);
        x.twice(0, 1, false);
        x.timed(0, 1, 2, false);
        x.element(0, 0, 2, true);
        x.group(3, 5);
        x.group(4, 7);
        for (int d : new int[] {0, 3, 4}) {
            CHECK.due("live in " + d, 1, () -> x.size(Edge.ofDelta(d), 0));
            CHECK.due("seen in " + d, 1, () -> x.size(Edge.ofDelta(d), 1));
        }
        x.join(1, 4);
        stateThen(x, 1);
        // What joined a DELTA is no part of it: its later changes stay its own.
        x.element(1, 0, 3, true);
        x.twice(1, 2, true);
        x.timed(1, 2, 2, true);
        x.join(2, 4);
        stateThen(x, 2);
        CHECK.due("no element 3", 0, () -> x.has(2, 0, 3));
        CHECK.due("element 2 was not put", 0, () -> x.inTwice(2, 2));
        CHECK.due("nor has it a TIME", Edge.NONE, () -> x.inTimed(2, 2, 1));
    }

    private static void stateThen(DotStores x, int r) {
        CHECK.due("the element", 1, () -> x.has(r, 0, 1));
        CHECK.due("not what came later", 0, () -> x.has(r, 0, 2));
        CHECK.due("put, and not taken", 1, () -> x.inTwice(r, 1));
        CHECK.due("in", 1, () -> x.inTimed(r, 1, 0));
        CHECK.due("with the first TIME", 1, () -> x.inTimed(r, 1, 1));
    }
}
