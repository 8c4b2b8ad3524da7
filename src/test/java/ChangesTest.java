/** Promises 1 to 8: a new object, and the changes by a replica. */
public final class ChangesTest {
    private static final Class<IndexOutOfBoundsException> INDEX = IndexOutOfBoundsException.class;
    private static final Class<UnsupportedOperationException> KIND = UnsupportedOperationException.class;
    private static final Class<IllegalStateException> FULL = IllegalStateException.class;
    private static final Class<IllegalArgumentException> TIME = IllegalArgumentException.class;
    private static final int[] NO_REPLICA = {-1, 6, Integer.MIN_VALUE, Integer.MAX_VALUE};
    private static final int[] NO_KEY = {-1, 16, -4, Integer.MIN_VALUE, Integer.MAX_VALUE};
    private static final int[] NO_PART = {-1, 32, Integer.MIN_VALUE, Integer.MAX_VALUE};

    private static final Check CHECK = new Check();

    public static void main(String[] args) {
        promise1NewObject();
        promise2Element();
        promise2ElementTakesBackOnlyItsOwn();
        promise2ElementRefused();
        promise3Write();
        promise3WriteRefused();
        promise4Count();
        promise4CountRefused();
        promise5Flag();
        promise5FlagRefused();
        promise6Clear();
        promise6ClearRefused();
        promise7Twice();
        promise7TwiceRefused();
        promise8Timed();
        promise8TimedOrder();
        promise8TimedRefused();
        noDotAnyMore();
        allDeltasMade();
        CHECK.end();
    }

    private static void promise1NewObject() {
        DotStores x = new DotStores();
        CHECK.due("1 NONE", -1, () -> DotStores.NONE);
        CHECK.due("1 deltas", 0, x::deltas);
        CHECK.refused("1 no delta 0", INDEX, () -> x.size(-2, 0));
        for (int r = 0; r < 6; r++) {
            int q = r;
            CHECK.due("1 live", 0, () -> x.size(q, 0));
            CHECK.due("1 seen", 0, () -> x.size(q, 1));
            CHECK.due("1 keys", 0, () -> x.keys(q));
            CHECK.due("1 like the first", 1, () -> x.same(0, q));
            for (int e = 0; e < 32; e++) {
                int f = e;
                CHECK.due("1 twice", 0, () -> x.inTwice(q, f));
                CHECK.due("1 timed", -1, () -> x.inTimed(q, f, 1));
            }
        }
    }

    private static void promise2Element() {
        DotStores x = new DotStores();
        for (int key = 0; key < 16; key += 4) {
            int k = key;
            CHECK.due("2 add 0", key / 2, () -> x.element(2, k, 0, true));
            CHECK.due("2 add 31", key / 2 + 1, () -> x.element(2, k, 31, true));
            CHECK.due("2 has 0", 1, () -> x.has(2, k, 0));
            CHECK.due("2 has 31", 1, () -> x.has(2, k, 31));
            CHECK.due("2 has no 1", 0, () -> x.has(2, k, 1));
        }
        CHECK.due("2 dots", 8, () -> x.size(2, 0));
        CHECK.due("2 the value is 0", 0, () -> x.value(2, 0, 0));
        CHECK.due("2 one value", 1, () -> x.values(2, 0));
        CHECK.due("2 others are untouched", 0, () -> x.size(1, 1));
        CHECK.due("2 remove", 8, () -> x.element(2, 0, 31, false));
        CHECK.due("2 has no 31", 0, () -> x.has(2, 0, 31));
        CHECK.due("2 still has 0", 1, () -> x.has(2, 0, 0));
        CHECK.due("2 still has 31 of key 4", 1, () -> x.has(2, 4, 31));
        CHECK.due("2 the removal sees one", 1, () -> x.size(-10, 1));
        CHECK.due("2 the removal has none live", 0, () -> x.size(-10, 0));
        CHECK.due("2 removing nothing", 9, () -> x.element(2, 0, 30, false));
        CHECK.due("2 an empty delta", 0, () -> x.size(-11, 1));
    }

    private static void promise2ElementTakesBackOnlyItsOwn() {
        DotStores x = new DotStores();
        x.element(0, 0, 5, true);
        x.element(0, 0, 6, true);
        x.element(1, 0, 5, true);
        x.merge(0, 1);
        CHECK.due("2 live before", 3, () -> x.size(0, 0));
        CHECK.due("2 add again", 3, () -> x.element(0, 0, 5, true));
        CHECK.due("2 live after", 2, () -> x.size(0, 0));
        CHECK.due("2 seen after", 4, () -> x.size(0, 1));
        CHECK.due("2 the delta sees both and the new one", 3, () -> x.size(-5, 1));
        CHECK.due("2 the delta has the new one live", 1, () -> x.size(-5, 0));
        CHECK.due("2 an addition apart wins", 0, () -> x.element(1, 0, 5, false) - 4);
        x.merge(1, 0);
        CHECK.due("2 the addition is there", 1, () -> x.has(1, 0, 5));
    }

    private static void promise2ElementRefused() {
        DotStores x = new DotStores();
        for (int r : NO_REPLICA) {
            CHECK.refused("2 replica", INDEX, () -> x.element(r, 0, 0, true));
            CHECK.refused("2 replica before kind", INDEX, () -> x.element(r, 1, 0, false));
        }
        for (int key : NO_KEY) {
            CHECK.refused("2 key", INDEX, () -> x.element(0, key, 0, true));
        }
        for (int e : NO_PART) {
            CHECK.refused("2 element", INDEX, () -> x.element(0, 0, e, false));
            CHECK.refused("2 element before kind", INDEX, () -> x.element(0, 3, e, true));
        }
        for (int key = 0; key < 16; key++) {
            int k = key;
            if (key % 4 != 0) {
                CHECK.refused("2 kind", KIND, () -> x.element(5, k, 1, true));
                CHECK.refused("2 kind", KIND, () -> x.element(5, k, 1, false));
            }
        }
        CHECK.due("2 nothing came of it", 0, x::deltas);
        CHECK.due("2 nothing is seen", 0, () -> x.size(5, 1));
    }

    private static void promise3Write() {
        DotStores x = new DotStores();
        CHECK.due("3 write", 0, () -> x.write(0, 1, Long.MIN_VALUE));
        CHECK.due("3 write apart", 1, () -> x.write(1, 1, Long.MAX_VALUE));
        CHECK.due("3 another key", 2, () -> x.write(0, 13, 4));
        x.merge(0, 1);
        CHECK.due("3 both stand", 2, () -> x.values(0, 1));
        CHECK.due("3 the least", Long.MIN_VALUE, () -> x.value(0, 1, 0));
        CHECK.due("3 the greatest", Long.MAX_VALUE, () -> x.value(0, 1, 1));
        CHECK.due("3 write over both", 3, () -> x.write(0, 1, 12));
        CHECK.due("3 one stands", 1, () -> x.values(0, 1));
        CHECK.due("3 it is the last", 12, () -> x.value(0, 1, 0));
        CHECK.due("3 part 0", 1, () -> x.has(0, 1, 0));
        CHECK.due("3 no other part", 0, () -> x.has(0, 1, 1));
        CHECK.due("3 the delta's seen", 3, () -> x.size(-5, 1));
        CHECK.due("3 the delta's live", 1, () -> x.size(-5, 0));
        CHECK.due("3 the other key stands", 4, () -> x.value(0, 13, 0));
    }

    private static void promise3WriteRefused() {
        DotStores x = new DotStores();
        for (int r : NO_REPLICA) {
            CHECK.refused("3 replica", INDEX, () -> x.write(r, 1, 0));
            CHECK.refused("3 replica before kind", INDEX, () -> x.write(r, 0, 0));
        }
        for (int key : NO_KEY) {
            CHECK.refused("3 key", INDEX, () -> x.write(0, key, 0));
        }
        for (int key = 0; key < 16; key++) {
            int k = key;
            if (key % 4 != 1) {
                CHECK.refused("3 kind", KIND, () -> x.write(5, k, 1));
            }
        }
        CHECK.due("3 nothing came of it", 0, x::deltas);
    }

    private static void promise4Count() {
        DotStores x = new DotStores();
        CHECK.due("4 count", 0, () -> x.count(0, 2, 5));
        CHECK.due("4 count apart", 1, () -> x.count(1, 2, 7));
        CHECK.due("4 count another key", 2, () -> x.count(0, 14, 100));
        x.merge(0, 1);
        CHECK.due("4 both", 12, () -> x.sum(0, 2));
        CHECK.due("4 count on", 3, () -> x.count(0, 2, -9));
        CHECK.due("4 both again", 3, () -> x.sum(0, 2));
        CHECK.due("4 own part and the other's", 2, () -> x.values(0, 2));
        CHECK.due("4 own part", -4, () -> x.value(0, 2, 0));
        CHECK.due("4 the other's", 7, () -> x.value(0, 2, 1));
        CHECK.due("4 only its own is taken back", 2, () -> x.size(-5, 1));
        CHECK.due("4 one new", 1, () -> x.size(-5, 0));
        CHECK.due("4 the other key", 100, () -> x.sum(0, 14));
        CHECK.due("4 part 0", 1, () -> x.has(0, 2, 0));
        CHECK.due("4 up to the end", 4, () -> x.count(3, 6, Long.MAX_VALUE));
        CHECK.due("4 wrapping", 5, () -> x.count(3, 6, 2));
        CHECK.due("4 wrapped", Long.MIN_VALUE + 1, () -> x.value(3, 6, 0));
        CHECK.due("4 by nothing", 6, () -> x.count(4, 6, 0));
        CHECK.due("4 nothing is a value", 1, () -> x.values(4, 6));
    }

    private static void promise4CountRefused() {
        DotStores x = new DotStores();
        for (int r : NO_REPLICA) {
            CHECK.refused("4 replica", INDEX, () -> x.count(r, 2, 0));
            CHECK.refused("4 replica before kind", INDEX, () -> x.count(r, 0, 0));
        }
        for (int key : NO_KEY) {
            CHECK.refused("4 key", INDEX, () -> x.count(0, key, 0));
        }
        for (int key = 0; key < 16; key++) {
            int k = key;
            if (key % 4 != 2) {
                CHECK.refused("4 kind", KIND, () -> x.count(5, k, 1));
            }
        }
        CHECK.due("4 nothing came of it", 0, x::deltas);
    }

    private static void promise5Flag() {
        DotStores x = new DotStores();
        CHECK.due("5 on", 0, () -> x.flag(0, 3, 0, true));
        CHECK.due("5 on", 1, () -> x.flag(0, 3, 7, true));
        CHECK.due("5 on, another key", 2, () -> x.flag(0, 15, 7, true));
        CHECK.due("5 on again", 3, () -> x.flag(0, 3, 7, true));
        CHECK.due("5 the delta's seen", 2, () -> x.size(-5, 1));
        CHECK.due("5 the delta's live", 1, () -> x.size(-5, 0));
        CHECK.due("5 live", 3, () -> x.size(0, 0));
        CHECK.due("5 the value is 0", 0, () -> x.value(0, 3, 0));
        CHECK.due("5 off", 4, () -> x.flag(0, 3, 7, false));
        CHECK.due("5 is off", 0, () -> x.has(0, 3, 7));
        CHECK.due("5 is on", 1, () -> x.has(0, 3, 0));
        CHECK.due("5 the other key is on", 1, () -> x.has(0, 15, 7));
        CHECK.due("5 the removal's seen", 1, () -> x.size(-6, 1));
        CHECK.due("5 the removal's live", 0, () -> x.size(-6, 0));
    }

    private static void promise5FlagRefused() {
        DotStores x = new DotStores();
        for (int r : NO_REPLICA) {
            CHECK.refused("5 replica", INDEX, () -> x.flag(r, 3, 0, true));
            CHECK.refused("5 replica before kind", INDEX, () -> x.flag(r, 0, 0, true));
        }
        for (int key : NO_KEY) {
            CHECK.refused("5 key", INDEX, () -> x.flag(0, key, 0, true));
        }
        for (int part : new int[] {-1, 8, 31, Integer.MIN_VALUE, Integer.MAX_VALUE}) {
            CHECK.refused("5 part", INDEX, () -> x.flag(0, 3, part, true));
            CHECK.refused("5 part off", INDEX, () -> x.flag(0, 3, part, false));
            CHECK.refused("5 part before kind", INDEX, () -> x.flag(0, 0, part, true));
        }
        for (int key = 0; key < 16; key++) {
            int k = key;
            if (key % 4 != 3) {
                CHECK.refused("5 kind", KIND, () -> x.flag(5, k, 1, true));
                CHECK.refused("5 kind", KIND, () -> x.flag(5, k, 1, false));
            }
        }
        CHECK.due("5 nothing came of it", 0, x::deltas);
    }

    private static void promise6Clear() {
        DotStores x = new DotStores();
        x.element(0, 0, 1, true);
        x.element(0, 0, 2, true);
        x.element(0, 4, 2, true);
        x.write(1, 1, 9);
        x.count(1, 2, 9);
        x.flag(1, 3, 4, true);
        x.element(1, 0, 3, true);
        x.merge(0, 1);
        CHECK.due("6 keys before", 0b11111, () -> x.keys(0));
        CHECK.due("6 clear a set", 7, () -> x.clear(0, 0));
        CHECK.due("6 of all replicas", 3, () -> x.size(-9, 1));
        CHECK.due("6 none live", 0, () -> x.size(-9, 0));
        CHECK.due("6 clear a register", 8, () -> x.clear(0, 1));
        CHECK.due("6 clear a counter", 9, () -> x.clear(0, 2));
        CHECK.due("6 clear a map", 10, () -> x.clear(0, 3));
        CHECK.due("6 keys after", 0b10000, () -> x.keys(0));
        CHECK.due("6 clear nothing", 11, () -> x.clear(0, 15));
        CHECK.due("6 an empty delta", 0, () -> x.size(-13, 1));
        CHECK.due("6 what was seen stays", 7, () -> x.size(0, 1));
    }

    private static void promise6ClearRefused() {
        DotStores x = new DotStores();
        for (int r : NO_REPLICA) {
            CHECK.refused("6 replica", INDEX, () -> x.clear(r, 0));
        }
        for (int key : NO_KEY) {
            CHECK.refused("6 key", INDEX, () -> x.clear(0, key));
        }
        CHECK.due("6 nothing came of it", 0, x::deltas);
    }

    private static void promise7Twice() {
        DotStores x = new DotStores();
        CHECK.due("7 put", 0, () -> x.twice(0, 0, true));
        CHECK.due("7 put", 1, () -> x.twice(0, 31, true));
        CHECK.due("7 take", 2, () -> x.twice(0, 0, false));
        CHECK.due("7 put for nothing", 3, () -> x.twice(0, 0, true));
        CHECK.due("7 taken for ever", 0, () -> x.inTwice(0, 0));
        CHECK.due("7 is in", 1, () -> x.inTwice(0, 31));
        CHECK.due("7 take before put", 4, () -> x.twice(1, 5, false));
        CHECK.due("7 then put", 5, () -> x.twice(1, 5, true));
        CHECK.due("7 never in", 0, () -> x.inTwice(1, 5));
        CHECK.due("7 the put alone", 1, () -> x.join(2, 5));
        CHECK.due("7 is in by the put", 1, () -> x.inTwice(2, 5));
        CHECK.due("7 the take alone", 1, () -> x.join(2, 4));
        CHECK.due("7 is out by the take", 0, () -> x.inTwice(2, 5));
        CHECK.due("7 no dots", 0, () -> x.size(0, 1));
    }

    private static void promise7TwiceRefused() {
        DotStores x = new DotStores();
        for (int r : NO_REPLICA) {
            CHECK.refused("7 replica", INDEX, () -> x.twice(r, 0, true));
        }
        for (int e : NO_PART) {
            CHECK.refused("7 element", INDEX, () -> x.twice(0, e, true));
            CHECK.refused("7 element", INDEX, () -> x.twice(0, e, false));
        }
        CHECK.due("7 nothing came of it", 0, x::deltas);
    }

    private static void promise8Timed() {
        DotStores x = new DotStores();
        CHECK.due("8 in", 0, () -> x.timed(5, 31, 1000000, true));
        CHECK.due("8 out", 1, () -> x.timed(0, 0, 0, false));
        CHECK.due("8 is in", 1, () -> x.inTimed(5, 31, 0));
        CHECK.due("8 time", 1000000, () -> x.inTimed(5, 31, 1));
        CHECK.due("8 replica", 5, () -> x.inTimed(5, 31, 2));
        CHECK.due("8 is out", 0, () -> x.inTimed(0, 0, 0));
        CHECK.due("8 time 0", 0, () -> x.inTimed(0, 0, 1));
        CHECK.due("8 replica 0", 0, () -> x.inTimed(0, 0, 2));
        CHECK.due("8 something before nothing", 1, () -> x.join(1, 1));
        CHECK.due("8 other elements have none", -1, () -> x.inTimed(0, 1, 1));
        CHECK.due("8 no dots", 0, () -> x.size(0, 1));
    }

    private static void promise8TimedOrder() {
        DotStores x = new DotStores();
        CHECK.due("8 by 1", 0, () -> x.timed(1, 3, 10, false));
        CHECK.due("8 in before out", 1, () -> x.timed(1, 3, 10, true));
        CHECK.due("8 out is behind", 2, () -> x.timed(1, 3, 10, false));
        CHECK.due("8 is in", 1, () -> x.inTimed(1, 3, 0));
        CHECK.due("8 earlier", 3, () -> x.timed(1, 3, 9, false));
        CHECK.due("8 still the later", 10, () -> x.inTimed(1, 3, 1));
        CHECK.due("8 later by a lesser replica", 4, () -> x.timed(0, 3, 11, false));
        CHECK.due("8 the later wins", 1, () -> x.merge(1, 0));
        CHECK.due("8 is out", 0, () -> x.inTimed(1, 3, 0));
        CHECK.due("8 by replica 0", 0, () -> x.inTimed(1, 3, 2));
        CHECK.due("8 like time, greater replica", 5, () -> x.timed(2, 3, 11, false));
        CHECK.due("8 in by a lesser replica", 6, () -> x.timed(0, 3, 11, true));
        CHECK.due("8 the greater replica wins", 1, () -> x.merge(0, 2));
        CHECK.due("8 though it is out", 0, () -> x.inTimed(0, 3, 0));
        CHECK.due("8 by replica 2", 2, () -> x.inTimed(0, 3, 2));
        CHECK.due("8 and stays", 0, () -> x.join(2, 6));
    }

    private static void promise8TimedRefused() {
        DotStores x = new DotStores();
        for (int r : NO_REPLICA) {
            CHECK.refused("8 replica", INDEX, () -> x.timed(r, 0, 0, true));
            CHECK.refused("8 replica before time", INDEX, () -> x.timed(r, 0, -1, true));
        }
        for (int e : NO_PART) {
            CHECK.refused("8 element", INDEX, () -> x.timed(0, e, 0, true));
            CHECK.refused("8 element before time", INDEX, () -> x.timed(0, e, 1000001, true));
        }
        for (int time : new int[] {-1, 1000001, Integer.MIN_VALUE, Integer.MAX_VALUE}) {
            CHECK.refused("8 time", TIME, () -> x.timed(0, 0, time, true));
            CHECK.refused("8 time", TIME, () -> x.timed(0, 0, time, false));
        }
        CHECK.due("8 nothing came of it", 0, x::deltas);
    }

    private static void noDotAnyMore() {
        DotStores x = new DotStores();
        for (int i = 0; i < 100; i++) {
            int d = i;
            CHECK.due("2 dots of 3", d, () -> x.element(3, 0, d % 32, true));
        }
        CHECK.refused("2 no dot any more", FULL, () -> x.element(3, 0, 9, true));
        CHECK.refused("3 no dot any more", FULL, () -> x.write(3, 1, 9));
        CHECK.refused("4 no dot any more", FULL, () -> x.count(3, 2, 9));
        CHECK.refused("5 no dot any more", FULL, () -> x.flag(3, 3, 1, true));
        CHECK.refused("2 kind before that", KIND, () -> x.element(3, 1, 9, true));
        CHECK.refused("3 kind before that", KIND, () -> x.write(3, 2, 9));
        CHECK.refused("4 kind before that", KIND, () -> x.count(3, 3, 9));
        CHECK.refused("5 kind before that", KIND, () -> x.flag(3, 0, 1, true));
        CHECK.due("2 the element is there all the same", 1, () -> x.has(3, 0, 9));
        CHECK.due("2 no delta came of it", 100, x::deltas);
        CHECK.due("2 a removal needs no dot", 100, () -> x.element(3, 0, 9, false));
        CHECK.due("2 it is removed", 0, () -> x.has(3, 0, 9));
        CHECK.due("5 off needs no dot", 101, () -> x.flag(3, 3, 1, false));
        CHECK.due("6 clearing needs no dot", 102, () -> x.clear(3, 0));
        CHECK.due("7 nor does twice", 103, () -> x.twice(3, 0, true));
        CHECK.due("8 nor does timed", 104, () -> x.timed(3, 0, 0, true));
        x.merge(4, 3);
        CHECK.due("2 another replica has dots", 105, () -> x.element(4, 0, 9, true));
        CHECK.due("2 its number is its own", 1, () -> x.seen(4, 4, 2));
    }

    private static void allDeltasMade() {
        DotStores x = new DotStores();
        x.element(0, 0, 1, true);
        for (int i = 1; i < 249; i++) {
            x.twice(5, i % 32, true);
        }
        CHECK.due("11 the last delta", 249, () -> x.group(0, 1));
        CHECK.refused("2 on", FULL, () -> x.element(0, 0, 2, true));
        CHECK.refused("2 off", FULL, () -> x.element(0, 0, 1, false));
        CHECK.refused("3", FULL, () -> x.write(0, 1, 2));
        CHECK.refused("4", FULL, () -> x.count(0, 2, 2));
        CHECK.refused("5 on", FULL, () -> x.flag(0, 3, 2, true));
        CHECK.refused("5 off", FULL, () -> x.flag(0, 3, 2, false));
        CHECK.refused("6", FULL, () -> x.clear(0, 0));
        CHECK.refused("7", FULL, () -> x.twice(0, 0, true));
        CHECK.refused("8", FULL, () -> x.timed(0, 0, 0, true));
        CHECK.refused("11", FULL, () -> x.group(0, 1));
        CHECK.refused("12", FULL, () -> x.whole(0));
        CHECK.refused("2 index first", INDEX, () -> x.element(0, 0, 32, true));
        CHECK.refused("2 kind first", KIND, () -> x.element(0, 1, 0, false));
        CHECK.refused("3 kind first", KIND, () -> x.write(0, 0, 0));
        CHECK.refused("4 kind first", KIND, () -> x.count(0, 0, 0));
        CHECK.refused("5 index first", INDEX, () -> x.flag(0, 3, 8, true));
        CHECK.refused("5 kind first", KIND, () -> x.flag(0, 0, 7, false));
        CHECK.refused("6 index first", INDEX, () -> x.clear(0, 16));
        CHECK.refused("7 index first", INDEX, () -> x.twice(6, 0, true));
        CHECK.refused("8 index first", INDEX, () -> x.timed(0, 32, 0, true));
        CHECK.refused("8 time first", TIME, () -> x.timed(0, 0, -1, true));
        CHECK.refused("11 index first", INDEX, () -> x.group(0, 250));
        CHECK.refused("12 index first", INDEX, () -> x.whole(6));
        CHECK.due("13 no more deltas", 250, x::deltas);
        CHECK.due("2 nothing changed", 1, () -> x.size(0, 1));
        CHECK.due("2 nothing changed", 1, () -> x.has(0, 0, 1));
        CHECK.due("7 nothing changed", 0, () -> x.inTwice(0, 0));
        CHECK.due("8 nothing changed", 0, () -> x.inTimed(0, 0, 0));
        CHECK.due("9 the last one joins", 1, () -> x.join(4, 249));
    }
}
