import java.util.ArrayList;
import java.util.Collections;
import java.util.List;
import java.util.Random;

/** 'What it is': the document's first sentence, which the promises together must keep. */
public final class WhatItIsTest {
    private static final int RUNS = 60;
    private static final int CHANGES = 60;
    // The first three replicas change, the others join what those did.
    private static final int CHANGING = 3;

    private static final Check CHECK = new Check();

    public static void main(String[] args) {
        for (int run = 0; run < RUNS; run++) {
            inAnyOrder(new Random(run));
            inLargerPieces(new Random(run));
        }
        additionWins();
        additionOfAFlagWins();
        additionWinsOverClearing();
        removalOfWhatWasSeen();
        registersKeepWhatWasWrittenApart();
        countersAddUpOnce();
        neverTakenBack();
        byTimes();
        CHECK.end();
    }

    // ---- whole or in pieces, in any order, often

    private static void inAnyOrder(Random chance) {
        CHECK.sentence("join what others did, whole or in pieces, in any order, often");
        DotStores x = changedApart(chance);
        List<Integer> order = pieces(x);
        joinAll(x, 3, order);
        Collections.shuffle(order, chance);
        joinAll(x, 4, order);
        Collections.shuffle(order, chance);
        joinAll(x, 4, order);
        for (int q : new int[] {2, 0, 1}) {
            x.merge(5, q);
        }
        CHECK.due("in pieces, in another order, twice", 1, () -> x.same(3, 4));
        CHECK.due("whole states", 1, () -> x.same(3, 5));
        for (int q = 0; q < CHANGING; q++) {
            int r = q;
            CHECK.due("nothing that " + r + " has is left out", 1, () -> x.below(r, 3));
            CHECK.due("nothing that " + r + " has is new", 0, () -> x.merge(3, r));
        }
        for (int d : order) {
            CHECK.due("often", 0, () -> x.join(3, d));
        }
    }

    private static void inLargerPieces(Random chance) {
        CHECK.sentence("join what others did, whole or in pieces: pieces grouped, and whole states as DELTAS");
        DotStores x = changedApart(chance);
        List<Integer> order = pieces(x);
        joinAll(x, 3, order);
        Collections.shuffle(order, chance);
        int all = order.get(0);
        for (int d : order) {
            all = chance.nextBoolean() ? x.group(all, d) : x.group(d, all);
        }
        x.join(4, all);
        for (int q : new int[] {1, 2, 0}) {
            x.join(5, x.whole(q));
        }
        CHECK.due("one after the other, or all as one", 1, () -> x.same(3, 4));
        CHECK.due("one after the other, or whole states", 1, () -> x.same(3, 5));
    }

    /** Few keys, elements and times, so that what is done apart meets. */
    private static DotStores changedApart(Random chance) {
        DotStores x = new DotStores();
        for (int i = 0; i < CHANGES; i++) {
            change(x, chance, chance.nextInt(CHANGING));
            if (chance.nextInt(5) == 0) {
                x.merge(chance.nextInt(CHANGING), chance.nextInt(CHANGING));
            }
            if (chance.nextInt(5) == 0) {
                x.join(chance.nextInt(CHANGING), chance.nextInt(x.deltas()));
            }
        }
        return x;
    }

    private static void change(DotStores x, Random chance, int r) {
        boolean on = chance.nextInt(3) > 0;
        switch (chance.nextInt(7)) {
            case 0 -> x.element(r, 0, chance.nextInt(2), on);
            case 1 -> x.write(r, 1, chance.nextInt(3));
            case 2 -> x.count(r, 2, chance.nextInt(9) - 4);
            case 3 -> x.flag(r, 3, chance.nextInt(2), on);
            case 4 -> x.clear(r, chance.nextInt(4));
            case 5 -> x.twice(r, chance.nextInt(9), on);
            default -> x.timed(r, chance.nextInt(3), chance.nextInt(3), on);
        }
    }

    private static List<Integer> pieces(DotStores x) {
        List<Integer> pieces = new ArrayList<>();
        for (int d = 0; d < CHANGES; d++) {
            pieces.add(d);
        }
        CHECK.due("each change made a piece", CHANGES, x::deltas);
        return pieces;
    }

    private static void joinAll(DotStores x, int r, List<Integer> order) {
        for (int d : order) {
            x.join(r, d);
        }
    }

    // ---- what wins

    private static void additionWins() {
        CHECK.sentence("sets in which an addition wins");
        DotStores x = new DotStores();
        x.element(0, 4, 9, true);
        x.merge(1, 0);
        x.element(0, 4, 9, true);
        x.element(1, 4, 9, false);
        CHECK.due("removed where the removal was", 0, () -> x.has(1, 4, 9));
        bothWays(x);
        CHECK.due("the one that added", 1, () -> x.has(0, 4, 9));
        CHECK.due("the one that removed", 1, () -> x.has(1, 4, 9));
    }

    private static void additionOfAFlagWins() {
        CHECK.sentence("flags in maps: as sets");
        DotStores x = new DotStores();
        x.flag(0, 7, 6, true);
        x.merge(1, 0);
        x.flag(0, 7, 6, false);
        x.flag(1, 7, 6, true);
        CHECK.due("off where it was put off", 0, () -> x.has(0, 7, 6));
        bothWays(x);
        CHECK.due("on with the one that put it off", 1, () -> x.has(0, 7, 6));
        CHECK.due("on with the one that put it on", 1, () -> x.has(1, 7, 6));
    }

    private static void additionWinsOverClearing() {
        CHECK.sentence("sets in which an addition wins: over a clearing that has not seen it");
        DotStores x = new DotStores();
        x.element(0, 8, 1, true);
        x.merge(1, 0);
        x.clear(1, 8);
        x.element(0, 8, 2, true);
        bothWays(x);
        for (int q = 0; q < 2; q++) {
            int r = q;
            CHECK.due("what was cleared, with " + r, 0, () -> x.has(r, 8, 1));
            CHECK.due("what was added, with " + r, 1, () -> x.has(r, 8, 2));
        }
    }

    private static void removalOfWhatWasSeen() {
        CHECK.sentence("sets in which an addition wins: not over a removal that has seen it");
        DotStores x = new DotStores();
        x.element(0, 0, 3, true);
        x.element(1, 0, 3, true);
        x.merge(0, 1);
        x.element(0, 0, 3, false);
        bothWays(x);
        CHECK.due("with the one that removed", 0, () -> x.has(0, 0, 3));
        CHECK.due("with the one that added", 0, () -> x.has(1, 0, 3));
    }

    private static void registersKeepWhatWasWrittenApart() {
        CHECK.sentence("registers: what was written apart stays, until one that has seen it writes");
        DotStores x = new DotStores();
        x.write(0, 5, 20);
        x.write(1, 5, 10);
        bothWays(x);
        CHECK.due("both", 2, () -> x.values(0, 5));
        CHECK.due("the lesser", 10, () -> x.value(0, 5, 0));
        CHECK.due("the greater", 20, () -> x.value(0, 5, 1));
        x.write(1, 5, 30);
        bothWays(x);
        CHECK.due("one", 1, () -> x.values(0, 5));
        CHECK.due("the last", 30, () -> x.value(0, 5, 0));
    }

    private static void countersAddUpOnce() {
        CHECK.sentence("counters: each change counts once, however often it is joined");
        DotStores x = new DotStores();
        long due = 0;
        for (int turn = 0; turn < 5; turn++) {
            for (int r = 0; r < 6; r++) {
                x.count(r, 6, turn * r - 7);
                due += turn * r - 7;
            }
            for (int pair = 0; pair < 36; pair++) {
                x.merge(pair / 6, pair % 6);
            }
        }
        for (int r = 0; r < 5; r++) {
            x.merge(r, 5);
        }
        for (int q = 0; q < 6; q++) {
            int r = q;
            long sum = due;
            CHECK.due("with " + r, sum, () -> x.sum(r, 6));
        }
    }

    private static void neverTakenBack() {
        CHECK.sentence("sets that never take back");
        DotStores x = new DotStores();
        x.twice(0, 31, false);
        x.twice(1, 31, true);
        x.twice(1, 30, true);
        bothWays(x);
        x.twice(0, 31, true);
        bothWays(x);
        for (int q = 0; q < 2; q++) {
            int r = q;
            CHECK.due("taken before it was put, with " + r, 0, () -> x.inTwice(r, 31));
            CHECK.due("put and never taken, with " + r, 1, () -> x.inTwice(r, 30));
        }
    }

    private static void byTimes() {
        CHECK.sentence("sets by times");
        DotStores x = new DotStores();
        x.timed(0, 2, 100, false);
        x.timed(1, 2, 99, true);
        x.timed(0, 3, 99, false);
        x.timed(1, 3, 100, true);
        bothWays(x);
        for (int q = 0; q < 2; q++) {
            int r = q;
            CHECK.due("out at the later time, with " + r, 0, () -> x.inTimed(r, 2, 0));
            CHECK.due("in at the later time, with " + r, 1, () -> x.inTimed(r, 3, 0));
            CHECK.due("whose it is, with " + r, 0, () -> x.inTimed(r, 2, 2));
        }
    }

    private static void bothWays(DotStores x) {
        x.merge(0, 1);
        x.merge(1, 0);
        CHECK.due("both have the same", 1, () -> x.same(0, 1));
    }
}
