/** Promises 14 to 24: what a replica answers of its state. */
public final class AnswersTest {
    private static final Class<IndexOutOfBoundsException> INDEX = IndexOutOfBoundsException.class;
    private static final int[] NO_REPLICA = {-1, -2, 6, Integer.MIN_VALUE, Integer.MAX_VALUE};
    private static final int[] NO_KEY = {-1, 16, Integer.MIN_VALUE, Integer.MAX_VALUE};
    private static final int[] NO_PART = {-1, 32, Integer.MIN_VALUE, Integer.MAX_VALUE};
    private static final int[] NO_WHAT = {-1, 3, Integer.MIN_VALUE, Integer.MAX_VALUE};

    private static final Check CHECK = new Check();

    public static void main(String[] args) {
        promise14Has();
        promise15And16Values();
        promise15And16ValuesOfOneReplica();
        promise17Sum();
        promise18Keys();
        promise19InTwice();
        promise20InTimed();
        promise21Seen();
        promise22Size();
        promise23Same();
        promise24Below();
        promise24BelowLooksAtAll();
        allDotsMade();
        CHECK.end();
    }

    private static void promise14Has() {
        DotStores x = new DotStores();
        x.element(0, 12, 31, true);
        x.flag(0, 3, 7, true);
        for (int key = 0; key < 16; key++) {
            // An object is good for 512 calls: every other part leaves room for those that follow.
            for (int part = 1; part < 32; part += 2) {
                int k = key;
                int p = part;
                int want = key == 12 && part == 31 || key == 3 && part == 7 ? 1 : 0;
                CHECK.due("14 has " + k + " " + p, want, () -> x.has(0, k, p));
            }
        }
        CHECK.due("14 another replica", 0, () -> x.has(1, 12, 31));
        for (int r : NO_REPLICA) {
            CHECK.refused("14 replica", INDEX, () -> x.has(r, 0, 0));
        }
        for (int key : NO_KEY) {
            CHECK.refused("14 key", INDEX, () -> x.has(0, key, 0));
        }
        for (int part : NO_PART) {
            CHECK.refused("14 part", INDEX, () -> x.has(0, 0, part));
            CHECK.refused("14 part of a register", INDEX, () -> x.has(0, 1, part));
        }
    }

    private static void promise15And16Values() {
        DotStores x = new DotStores();
        long[] written = {5, -3, 5, Long.MAX_VALUE, Long.MIN_VALUE, 0};
        for (int r = 0; r < 6; r++) {
            x.write(r, 5, written[r]);
            x.merge(0, r);
        }
        CHECK.due("15 different ones", 5, () -> x.values(0, 5));
        CHECK.due("15 one", 1, () -> x.values(1, 5));
        CHECK.due("15 of another key", 0, () -> x.values(0, 1));
        long[] ordered = {Long.MIN_VALUE, -3, 0, 5, Long.MAX_VALUE};
        for (int i = 0; i < ordered.length; i++) {
            int at = i;
            CHECK.due("16 value " + i, ordered[i], () -> x.value(0, 5, at));
        }
        for (int i : new int[] {-1, 5, 6, 250, 1000, Integer.MIN_VALUE, Integer.MAX_VALUE}) {
            CHECK.refused("16 none such", INDEX, () -> x.value(0, 5, i));
        }
        CHECK.refused("16 none at all", INDEX, () -> x.value(0, 1, 0));
        CHECK.refused("16 after a fuller key", INDEX, () -> x.value(1, 5, 1));
        for (int r : NO_REPLICA) {
            CHECK.refused("15 replica", INDEX, () -> x.values(r, 5));
            CHECK.refused("16 replica", INDEX, () -> x.value(r, 5, 0));
        }
        for (int key : NO_KEY) {
            CHECK.refused("15 key", INDEX, () -> x.values(0, key));
            CHECK.refused("16 key", INDEX, () -> x.value(0, key, 0));
        }
    }

    /** A replica that misses the deltas that take back keeps many dots of one register. */
    private static void promise15And16ValuesOfOneReplica() {
        DotStores x = new DotStores();
        for (int i = 0; i < 100; i++) {
            x.write(0, 1, (i * 37) % 50);
            x.clear(0, 1);
            x.join(1, 2 * i);
        }
        CHECK.due("15 all dots", 100, () -> x.size(1, 0));
        CHECK.due("15 different ones", 50, () -> x.values(1, 1));
        for (int i = 0; i < 50; i++) {
            int at = i;
            CHECK.due("16 in order", at, () -> x.value(1, 1, at));
        }
        CHECK.refused("16 no more", INDEX, () -> x.value(1, 1, 50));
        CHECK.due("17 all together", 2450, () -> x.sum(1, 1));
    }

    private static void promise17Sum() {
        DotStores x = new DotStores();
        x.count(0, 2, Long.MAX_VALUE);
        x.count(1, 2, Long.MAX_VALUE);
        x.count(2, 2, 3);
        x.count(2, 6, 50);
        x.write(0, 1, 4);
        x.write(1, 1, 4);
        x.element(0, 0, 4, true);
        CHECK.due("17 one", Long.MAX_VALUE, () -> x.sum(0, 2));
        x.merge(0, 1);
        x.merge(0, 2);
        CHECK.due("17 wrapping", 1, () -> x.sum(0, 2));
        CHECK.due("17 another key", 50, () -> x.sum(0, 6));
        CHECK.due("17 like values count each", 8, () -> x.sum(0, 1));
        CHECK.due("17 elements are 0", 0, () -> x.sum(0, 0));
        CHECK.due("17 nothing", 0, () -> x.sum(0, 10));
        for (int r : NO_REPLICA) {
            CHECK.refused("17 replica", INDEX, () -> x.sum(r, 2));
        }
        for (int key : NO_KEY) {
            CHECK.refused("17 key", INDEX, () -> x.sum(0, key));
        }
    }

    private static void promise18Keys() {
        DotStores x = new DotStores();
        CHECK.due("18 none", 0, () -> x.keys(0));
        for (int key = 0; key < 16; key += 4) {
            x.element(0, key, 1, true);
            x.element(0, key, 2, true);
            x.write(0, key + 1, 1);
            x.count(0, key + 2, 1);
            x.flag(0, key + 3, 1, true);
        }
        CHECK.due("18 all", 0xffff, () -> x.keys(0));
        CHECK.due("18 another replica", 0, () -> x.keys(1));
        x.element(0, 0, 1, false);
        x.clear(0, 15);
        CHECK.due("18 but one", 0x7fff, () -> x.keys(0));
        x.element(0, 0, 2, false);
        CHECK.due("18 but two", 0x7ffe, () -> x.keys(0));
        for (int r : NO_REPLICA) {
            CHECK.refused("18 replica", INDEX, () -> x.keys(r));
        }
    }

    private static void promise19InTwice() {
        DotStores x = new DotStores();
        x.twice(0, 31, true);
        x.twice(0, 30, false);
        for (int e = 0; e < 32; e++) {
            int f = e;
            CHECK.due("19 element " + e, e == 31 ? 1 : 0, () -> x.inTwice(0, f));
            CHECK.due("19 another replica", 0, () -> x.inTwice(1, f));
        }
        x.twice(1, 31, false);
        x.merge(0, 1);
        CHECK.due("19 taken", 0, () -> x.inTwice(0, 31));
        for (int r : NO_REPLICA) {
            CHECK.refused("19 replica", INDEX, () -> x.inTwice(r, 0));
        }
        for (int e : NO_PART) {
            CHECK.refused("19 element", INDEX, () -> x.inTwice(0, e));
        }
    }

    private static void promise20InTimed() {
        DotStores x = new DotStores();
        int[] times = {0, 1, 999999, 1000000};
        for (int r = 0; r < 6; r++) {
            for (int i = 0; i < 8; i++) {
                int q = r;
                int e = i;
                x.timed(r, i, times[i / 2], i % 2 == 0);
                CHECK.due("20 in", 1 - i % 2, () -> x.inTimed(q, e, 0));
                CHECK.due("20 time", times[i / 2], () -> x.inTimed(q, e, 1));
                CHECK.due("20 replica", r, () -> x.inTimed(q, e, 2));
            }
        }
        CHECK.due("20 not in", 0, () -> x.inTimed(0, 31, 0));
        CHECK.due("20 no time", -1, () -> x.inTimed(0, 31, 1));
        CHECK.due("20 no replica", -1, () -> x.inTimed(0, 31, 2));
        for (int r : NO_REPLICA) {
            CHECK.refused("20 replica", INDEX, () -> x.inTimed(r, 0, 0));
        }
        for (int e : NO_PART) {
            CHECK.refused("20 element", INDEX, () -> x.inTimed(0, e, 0));
        }
        for (int what : NO_WHAT) {
            CHECK.refused("20 what", INDEX, () -> x.inTimed(0, 0, what));
            CHECK.refused("20 what of nothing", INDEX, () -> x.inTimed(0, 31, what));
        }
    }

    private static void promise21Seen() {
        DotStores x = new DotStores();
        for (int i = 0; i < 6; i++) {
            x.element(0, 0, i, true);
            x.element(1, 0, i, true);
        }
        for (int d : new int[] {0, 2, 6, 8}) {
            x.join(2, d);
        }
        CHECK.due("21 without a gap", 2, () -> x.seen(2, 0, 0));
        CHECK.due("21 in all", 4, () -> x.seen(2, 0, 1));
        CHECK.due("21 the greatest", 5, () -> x.seen(2, 0, 2));
        CHECK.due("21 none of 1", 0, () -> x.seen(2, 1, 0));
        CHECK.due("21 none of 1", 0, () -> x.seen(2, 1, 1));
        CHECK.due("21 none of 1", 0, () -> x.seen(2, 1, 2));
        x.join(2, 4);
        CHECK.due("21 the gap is closed", 5, () -> x.seen(2, 0, 0));
        x.join(2, 11);
        CHECK.due("21 not from 1 on", 0, () -> x.seen(2, 1, 0));
        CHECK.due("21 one in all", 1, () -> x.seen(2, 1, 1));
        CHECK.due("21 the greatest is 6", 6, () -> x.seen(2, 1, 2));
        x.element(0, 0, 0, false);
        CHECK.due("21 taken back is seen", 6, () -> x.seen(0, 0, 0));
        for (int r : NO_REPLICA) {
            CHECK.refused("21 replica", INDEX, () -> x.seen(r, 0, 0));
            CHECK.refused("21 of replica", INDEX, () -> x.seen(0, r, 0));
        }
        for (int what : NO_WHAT) {
            CHECK.refused("21 what", INDEX, () -> x.seen(0, 0, what));
        }
    }

    private static void promise22Size() {
        DotStores x = new DotStores();
        for (int i = 0; i < 100; i++) {
            x.element(0, 0, i % 32, true);
            x.element(1, 0, i % 32, true);
        }
        CHECK.due("22 live", 32, () -> x.size(0, 0));
        CHECK.due("22 seen", 100, () -> x.size(0, 1));
        x.merge(0, 1);
        CHECK.due("22 live of two", 64, () -> x.size(0, 0));
        CHECK.due("22 seen of two", 200, () -> x.size(0, 1));
        x.whole(0);
        CHECK.due("22 live of the last delta", 64, () -> x.size(-202, 0));
        CHECK.due("22 seen of the last delta", 200, () -> x.size(-202, 1));
        CHECK.due("22 seen of delta 0", 1, () -> x.size(-2, 1));
        CHECK.due("22 seen of delta 199", 2, () -> x.size(-201, 1));
        for (int r : new int[] {-1, 6, -203, -251, -252, -1000, Integer.MIN_VALUE, Integer.MAX_VALUE}) {
            CHECK.refused("22 no state", INDEX, () -> x.size(r, 0));
            CHECK.refused("22 no state", INDEX, () -> x.size(r, 1));
        }
        for (int what : new int[] {-1, 2, Integer.MIN_VALUE, Integer.MAX_VALUE}) {
            CHECK.refused("22 what", INDEX, () -> x.size(0, what));
            CHECK.refused("22 what of a delta", INDEX, () -> x.size(-2, what));
        }
    }

    private static void promise23Same() {
        DotStores x = new DotStores();
        CHECK.due("23 empty ones", 1, () -> x.same(0, 5));
        x.element(0, 0, 1, true);
        CHECK.due("23 live", 0, () -> x.same(0, 1));
        x.element(0, 0, 1, false);
        CHECK.due("23 seen alone", 0, () -> x.same(0, 1));
        CHECK.due("23 the other way", 0, () -> x.same(1, 0));
        x.merge(1, 0);
        CHECK.due("23 merged", 1, () -> x.same(0, 1));
        x.twice(2, 3, true);
        CHECK.due("23 put", 0, () -> x.same(2, 5));
        x.twice(3, 3, false);
        CHECK.due("23 taken", 0, () -> x.same(3, 5));
        CHECK.due("23 put and taken", 0, () -> x.same(2, 3));
        x.timed(4, 3, 0, false);
        CHECK.due("23 timed", 0, () -> x.same(4, 5));
        CHECK.due("23 itself", 1, () -> x.same(4, 4));
        DotStores y = new DotStores();
        y.element(0, 0, 1, true);
        y.join(1, 0);
        y.join(2, 0);
        y.element(1, 0, 1, false);
        CHECK.due("23 like seen, other live", 0, () -> y.same(1, 2));
        for (int r : NO_REPLICA) {
            CHECK.refused("23 replica", INDEX, () -> x.same(r, 0));
            CHECK.refused("23 replica", INDEX, () -> x.same(0, r));
        }
    }

    private static void promise24Below() {
        DotStores x = new DotStores();
        CHECK.due("24 empty ones", 1, () -> x.below(0, 5));
        x.element(0, 0, 1, true);
        CHECK.due("24 nothing is below all", 1, () -> x.below(1, 0));
        CHECK.due("24 more is not below", 0, () -> x.below(0, 1));
        CHECK.due("24 itself", 1, () -> x.below(0, 0));
        x.merge(1, 0);
        x.element(1, 0, 1, false);
        CHECK.due("24 live is below taken back", 1, () -> x.below(0, 1));
        CHECK.due("24 taken back is not below live", 0, () -> x.below(1, 0));
        CHECK.due("24 nothing changed in 0", 1, () -> x.has(0, 0, 1));
        CHECK.due("24 nothing changed in 1", 0, () -> x.has(1, 0, 1));
        x.write(0, 1, 4);
        CHECK.due("24 apart", 0, () -> x.below(0, 1));
        CHECK.due("24 apart", 0, () -> x.below(1, 0));
        x.twice(2, 3, true);
        CHECK.due("24 put", 0, () -> x.below(2, 5));
        x.twice(3, 3, false);
        CHECK.due("24 taken", 0, () -> x.below(3, 5));
        x.timed(4, 3, 0, false);
        CHECK.due("24 timed", 0, () -> x.below(4, 5));
        CHECK.due("24 nothing is below timed", 1, () -> x.below(5, 4));
        CHECK.due("24 the empty one is still empty", 1, () -> x.below(5, 2));
        for (int r : NO_REPLICA) {
            CHECK.refused("24 replica", INDEX, () -> x.below(r, 0));
            CHECK.refused("24 replica", INDEX, () -> x.below(0, r));
        }
    }

    private static void promise24BelowLooksAtAll() {
        DotStores x = new DotStores();
        x.twice(0, 31, true);
        x.merge(1, 0);
        CHECK.due("24 a put that both have", 1, () -> x.below(1, 0));
        x.twice(2, 31, false);
        x.merge(3, 2);
        CHECK.due("24 a take that both have", 1, () -> x.below(3, 2));
        x.timed(4, 31, 7, true);
        x.merge(5, 4);
        CHECK.due("24 a time that both have", 1, () -> x.below(5, 4));
        CHECK.due("24 nothing is left of the look before", 0, () -> x.below(1, 4));
        CHECK.due("24 nothing is left of the look before", 0, () -> x.below(4, 1));
    }

    /** With each delta a dot: the fullest that an object can be, where a walk over its dots must still end in time. */
    private static void allDotsMade() {
        DotStores x = new DotStores();
        for (int i = 0; i < 250; i++) {
            x.write(i / 100, 13, i);
            if (i % 2 == 1) {
                x.join(5, i);
            }
        }
        CHECK.refused("3 no delta any more", IllegalStateException.class, () -> x.write(2, 13, 0));
        CHECK.due("14 has", 1, () -> x.has(5, 13, 0));
        CHECK.due("14 has not", 0, () -> x.has(5, 13, 1));
        CHECK.due("15 values", 125, () -> x.values(5, 13));
        CHECK.due("16 the least", 1, () -> x.value(5, 13, 0));
        CHECK.due("16 the greatest", 249, () -> x.value(5, 13, 124));
        CHECK.due("17 sum", 125 * 125, () -> x.sum(5, 13));
        CHECK.due("18 keys", 1 << 13, () -> x.keys(5));
        CHECK.due("21 without a gap", 50, () -> x.seen(5, 2, 0));
        CHECK.due("21 the greatest", 100, () -> x.seen(5, 1, 2));
        CHECK.due("22 live", 125, () -> x.size(5, 0));
        CHECK.due("22 seen", 250, () -> x.size(5, 1));
        CHECK.due("22 the last delta", 2, () -> x.size(-251, 1));
        CHECK.due("10 merge", 1, () -> x.merge(0, 5));
        CHECK.refused("6 no delta any more", IllegalStateException.class, () -> x.clear(0, 13));
    }
}
