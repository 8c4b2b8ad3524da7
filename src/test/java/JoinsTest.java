/** Promises 9 to 13: joining deltas and states, deltas made of others, and their number. */
public final class JoinsTest {
    private static final Class<IndexOutOfBoundsException> INDEX = IndexOutOfBoundsException.class;
    private static final int[] NO_REPLICA = {-1, -2, 6, Integer.MIN_VALUE, Integer.MAX_VALUE};

    private static final Check CHECK = new Check();

    public static void main(String[] args) {
        promise9Join();
        promise9JoinTakenBackFirst();
        promise9JoinRefused();
        promise10Merge();
        promise10MergeEachPartCounts();
        promise11Group();
        promise11GroupRefused();
        promise12Whole();
        promise13Deltas();
        CHECK.end();
    }

    private static void promise9Join() {
        DotStores x = new DotStores();
        x.element(0, 0, 5, true);
        x.twice(0, 4, true);
        x.timed(0, 4, 7, false);
        x.clear(0, 8);
        for (int r = 1; r < 6; r++) {
            int q = r;
            CHECK.due("9 a dot is new", 1, () -> x.join(q, 0));
            CHECK.due("9 it is old", 0, () -> x.join(q, 0));
            CHECK.due("9 twice is new", 1, () -> x.join(q, 1));
            CHECK.due("9 twice is old", 0, () -> x.join(q, 1));
            CHECK.due("9 timed is new", 1, () -> x.join(q, 2));
            CHECK.due("9 timed is old", 0, () -> x.join(q, 2));
            CHECK.due("9 an empty one", 0, () -> x.join(q, 3));
            CHECK.due("9 all came over", 1, () -> x.same(0, q));
        }
        CHECK.due("9 its own", 0, () -> x.join(0, 0));
        CHECK.due("9 no delta is made", 4, x::deltas);
    }

    private static void promise9JoinTakenBackFirst() {
        DotStores x = new DotStores();
        x.element(0, 0, 5, true);
        x.element(0, 0, 5, false);
        CHECK.due("9 the removal first", 1, () -> x.join(1, 1));
        CHECK.due("9 it has seen the dot", 1, () -> x.seen(1, 0, 0));
        CHECK.due("9 the addition comes late", 0, () -> x.join(1, 0));
        CHECK.due("9 it stays removed", 0, () -> x.has(1, 0, 5));
        CHECK.due("9 the addition first", 1, () -> x.join(2, 0));
        CHECK.due("9 it is there", 1, () -> x.has(2, 0, 5));
        CHECK.due("9 the removal then", 1, () -> x.join(2, 1));
        CHECK.due("9 it is gone", 0, () -> x.has(2, 0, 5));
        CHECK.due("9 in any order", 1, () -> x.same(1, 2));
    }

    private static void promise9JoinRefused() {
        DotStores x = new DotStores();
        CHECK.refused("9 no delta yet", INDEX, () -> x.join(0, 0));
        x.element(0, 0, 5, true);
        for (int r : NO_REPLICA) {
            CHECK.refused("9 replica", INDEX, () -> x.join(r, 0));
        }
        for (int d : new int[] {-1, 1, 249, 250, 1000, Integer.MIN_VALUE, Integer.MAX_VALUE}) {
            CHECK.refused("9 delta", INDEX, () -> x.join(0, d));
        }
    }

    private static void promise10Merge() {
        DotStores x = new DotStores();
        x.write(0, 1, 3);
        x.write(1, 1, 4);
        CHECK.due("10 merge", 1, () -> x.merge(0, 1));
        CHECK.due("10 again", 0, () -> x.merge(0, 1));
        CHECK.due("10 with itself", 0, () -> x.merge(0, 0));
        CHECK.due("10 both there", 2, () -> x.values(0, 1));
        CHECK.due("10 the other one is as it was", 1, () -> x.values(1, 1));
        CHECK.due("10 with an empty one", 0, () -> x.merge(0, 5));
        CHECK.due("10 back", 1, () -> x.merge(1, 0));
        CHECK.due("10 they are the same", 1, () -> x.same(0, 1));
        x.write(0, 1, 5);
        CHECK.due("10 what was taken back goes", 1, () -> x.merge(1, 0));
        CHECK.due("10 the last stands", 5, () -> x.value(1, 1, 0));
        CHECK.due("10 alone", 1, () -> x.values(1, 1));
        CHECK.due("10 live in both stays", 0, () -> x.merge(0, 1));
        CHECK.due("10 live in both stays", 5, () -> x.value(0, 1, 0));
        CHECK.due("10 no delta is made", 3, x::deltas);
        for (int r : NO_REPLICA) {
            CHECK.refused("10 replica", INDEX, () -> x.merge(r, 0));
            CHECK.refused("10 replica", INDEX, () -> x.merge(0, r));
        }
    }

    private static void promise10MergeEachPartCounts() {
        DotStores x = new DotStores();
        x.twice(0, 9, true);
        CHECK.due("10 put", 1, () -> x.merge(1, 0));
        x.twice(0, 9, false);
        CHECK.due("10 taken", 1, () -> x.merge(1, 0));
        CHECK.due("10 is out", 0, () -> x.inTwice(1, 9));
        x.timed(0, 9, 0, false);
        CHECK.due("10 timed", 1, () -> x.merge(1, 0));
        CHECK.due("10 has a time", 0, () -> x.inTimed(1, 9, 1));
        x.element(0, 0, 0, true);
        x.element(0, 0, 0, false);
        CHECK.due("10 seen alone", 1, () -> x.merge(1, 0));
        CHECK.due("10 seen", 1, () -> x.size(1, 1));
        CHECK.due("10 nothing more", 0, () -> x.merge(1, 0));
    }

    private static void promise11Group() {
        DotStores x = new DotStores();
        x.element(0, 0, 5, true);
        x.element(0, 0, 5, true);
        x.twice(1, 2, true);
        x.timed(2, 3, 8, true);
        x.timed(3, 3, 8, false);
        CHECK.due("11 group", 5, () -> x.group(0, 1));
        CHECK.due("11 the first is taken back", 1, () -> x.size(-7, 0));
        CHECK.due("11 both seen", 2, () -> x.size(-7, 1));
        CHECK.due("11 the other way", 6, () -> x.group(1, 0));
        CHECK.due("11 the same", 1, () -> x.size(-8, 0));
        CHECK.due("11 with twice", 7, () -> x.group(5, 2));
        CHECK.due("11 with timed", 8, () -> x.group(3, 7));
        CHECK.due("11 with timed", 9, () -> x.group(4, 8));
        CHECK.due("11 with itself", 10, () -> x.group(9, 9));
        CHECK.due("11 the old ones never change", 1, () -> x.size(-2, 1));
        CHECK.due("11 the old ones never change", 1, () -> x.size(-2, 0));
        CHECK.due("11 all at once", 1, () -> x.join(5, 10));
        CHECK.due("11 element", 1, () -> x.has(5, 0, 5));
        CHECK.due("11 twice", 1, () -> x.inTwice(5, 2));
        CHECK.due("11 timed", 0, () -> x.inTimed(5, 3, 0));
        CHECK.due("11 timed by 3", 3, () -> x.inTimed(5, 3, 2));
        CHECK.due("11 no replica changed by grouping", 0, () -> x.size(4, 1));
        CHECK.due("11 the second part alone was kept", 0, () -> x.join(5, 9));
    }

    private static void promise11GroupRefused() {
        DotStores x = new DotStores();
        CHECK.refused("11 no delta yet", INDEX, () -> x.group(0, 0));
        x.clear(0, 0);
        for (int d : new int[] {-1, 1, 250, Integer.MIN_VALUE, Integer.MAX_VALUE}) {
            CHECK.refused("11 the first", INDEX, () -> x.group(d, 0));
            CHECK.refused("11 the second", INDEX, () -> x.group(0, d));
        }
        CHECK.due("11 nothing came of it", 1, x::deltas);
    }

    private static void promise12Whole() {
        DotStores x = new DotStores();
        x.element(0, 0, 5, true);
        x.element(0, 0, 6, true);
        x.element(0, 0, 5, false);
        x.clear(0, 8);
        x.twice(0, 2, false);
        x.twice(0, 31, true);
        x.timed(0, 3, 8, true);
        x.timed(0, 31, 4, true);
        CHECK.due("12 whole", 8, () -> x.whole(0));
        CHECK.due("12 live", 1, () -> x.size(-10, 0));
        CHECK.due("12 seen", 2, () -> x.size(-10, 1));
        x.element(0, 0, 7, true);
        x.twice(0, 30, true);
        x.timed(0, 3, 9, false);
        CHECK.due("12 it never changes", 2, () -> x.size(-10, 1));
        CHECK.due("12 join", 1, () -> x.join(1, 8));
        CHECK.due("12 element 6", 1, () -> x.has(1, 0, 6));
        CHECK.due("12 no element 7", 0, () -> x.has(1, 0, 7));
        CHECK.due("12 no later put", 0, () -> x.inTwice(1, 30));
        CHECK.due("12 the put came along", 1, () -> x.inTwice(1, 31));
        CHECK.due("12 the last element's time came along", 4, () -> x.inTimed(1, 31, 1));
        CHECK.due("12 the time then", 8, () -> x.inTimed(1, 3, 1));
        x.twice(1, 2, true);
        CHECK.due("12 taken came along", 0, () -> x.inTwice(1, 2));
        CHECK.due("12 an empty one", 13, () -> x.whole(5));
        CHECK.due("12 is empty", 0, () -> x.join(4, 13));
        for (int r : NO_REPLICA) {
            CHECK.refused("12 replica", INDEX, () -> x.whole(r));
        }
        CHECK.due("12 nothing came of it", 14, x::deltas);
    }

    private static void promise13Deltas() {
        DotStores x = new DotStores();
        CHECK.due("13 none", 0, x::deltas);
        x.element(0, 0, 0, true);
        CHECK.due("13 element", 1, x::deltas);
        x.write(0, 1, 0);
        CHECK.due("13 write", 2, x::deltas);
        x.count(0, 2, 0);
        CHECK.due("13 count", 3, x::deltas);
        x.flag(0, 3, 0, true);
        CHECK.due("13 flag", 4, x::deltas);
        x.clear(0, 0);
        CHECK.due("13 clear", 5, x::deltas);
        x.twice(0, 0, true);
        CHECK.due("13 twice", 6, x::deltas);
        x.timed(0, 0, 0, true);
        CHECK.due("13 timed", 7, x::deltas);
        x.group(0, 1);
        CHECK.due("13 group", 8, x::deltas);
        x.whole(0);
        CHECK.due("13 whole", 9, x::deltas);
        x.join(1, 0);
        x.merge(2, 0);
        CHECK.due("13 neither join nor merge", 9, x::deltas);
        CHECK.due("13 another object has its own", 0, () -> new DotStores().deltas());
    }
}
