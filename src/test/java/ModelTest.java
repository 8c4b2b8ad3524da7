/** All promises: long runs of calls on the class and on the model, whose answers must be like. */
public final class ModelTest {
    private static final int RUNS = 400;
    private static final int CALLS = 512;
    private static final int CHANGES = 9;
    private static final int CHOICES = 24;
    private static final int[] ODD = {-1, -2, 6, 8, 16, 32, 250, 1000001, Integer.MIN_VALUE, Integer.MAX_VALUE};

    private final Check check = new Check();
    private long state;
    // How a run goes: how many replicas, keys and parts it uses, how often it changes, how often it goes wrong.
    private int replicas;
    private int keys;
    private int parts;
    private int changesOf100;
    private int oddOf100;

    public static void main(String[] args) {
        ModelTest test = new ModelTest();
        for (int run = 0; run < RUNS; run++) {
            test.run(run);
        }
        test.check.end();
    }

    private void run(int run) {
        state = run * 7919L + 17;
        replicas = 1 + pick(6);
        keys = pick(2) == 0 ? 4 : 16;
        parts = 1 + pick(pick(2) == 0 ? 4 : 32);
        changesOf100 = 10 + pick(85);
        oddOf100 = pick(3) == 0 ? 10 : 0;
        DotStores x = new DotStores();
        Model m = new Model();
        for (int i = 0; i < CALLS; i++) {
            int call = pick(100) < changesOf100 ? pick(CHANGES + 3) : pick(CHOICES);
            compare("run " + run + " call " + i, call, x, m);
        }
    }

    /** No library's source of chance, so that a run is the same wherever it is run. */
    private int pick(int bound) {
        state = state * 6364136223846793005L + 1442695040888963407L;
        return (int) ((state >>> 33) % bound);
    }

    private int pickOrOdd(int bound) {
        return oddOf100 > 0 && pick(100) < oddOf100 ? ODD[pick(ODD.length)] : pick(bound);
    }

    private int key(int kind) {
        int key = pickOrOdd(keys);
        boolean anyKind = oddOf100 > 0 && pick(100) < oddOf100;
        return key < 0 || key >= 16 || anyKind ? key : key / 4 * 4 + kind;
    }

    private long number() {
        int kind = pick(4);
        if (kind == 0) {
            return Long.MAX_VALUE - pick(2);
        }
        return kind == 1 ? Long.MIN_VALUE + pick(2) : pick(7) - 3;
    }

    private void compare(String where, int call, DotStores x, Model m) {
        int r = pickOrOdd(replicas);
        boolean on = pick(3) > 0;
        int part = pickOrOdd(parts);
        if (call < CHANGES) {
            compareChange(where, call, x, m, r, part, on);
        } else if (call < 12) {
            compareJoin(where, call, x, m, r);
        } else if (call < 17) {
            compareKeyAnswer(where, call, x, m, r, part);
        } else {
            compareAnswer(where, call, x, m, r, part);
        }
    }

    private void like(String where, Check.Call got, Check.Call want) {
        check.tell(where, Check.answer(want), Check.answer(got));
    }

    private void compareChange(String where, int call, DotStores x, Model m, int r, int part, boolean on) {
        int time = pickOrOdd(pick(2) == 0 ? 3 : 1000001);
        long v = number();
        switch (call) {
            case 0, 1 -> {
                int k = key(0);
                like(where + " element", () -> x.element(r, k, part, on), () -> m.element(r, k, part, on));
            }
            case 2 -> {
                int k = key(1);
                like(where + " write", () -> x.write(r, k, v), () -> m.write(r, k, v));
            }
            case 3 -> {
                int k = key(2);
                like(where + " count", () -> x.count(r, k, v), () -> m.count(r, k, v));
            }
            case 4 -> {
                int k = key(3);
                like(where + " flag", () -> x.flag(r, k, part % 9, on), () -> m.flag(r, k, part % 9, on));
            }
            case 5 -> {
                int k = key(pick(4));
                like(where + " clear", () -> x.clear(r, k), () -> m.clear(r, k));
            }
            case 6 -> like(where + " twice", () -> x.twice(r, part, on), () -> m.twice(r, part, on));
            case 7 -> like(where + " timed", () -> x.timed(r, part, time, on), () -> m.timed(r, part, time, on));
            default -> compareMadeOfOthers(where, x, m, r);
        }
    }

    private void compareMadeOfOthers(String where, DotStores x, Model m, int r) {
        int d = pickOrOdd(m.deltas() + 1);
        int e = pickOrOdd(Math.max(1, m.deltas()));
        if (pick(3) == 0) {
            like(where + " whole", () -> x.whole(r), () -> m.whole(r));
        } else {
            like(where + " group", () -> x.group(d, e), () -> m.group(d, e));
        }
    }

    private void compareJoin(String where, int call, DotStores x, Model m, int r) {
        int d = pickOrOdd(Math.max(1, m.deltas()));
        int q = pickOrOdd(replicas);
        if (call < 11) {
            like(where + " join", () -> x.join(r, d), () -> m.join(r, d));
        } else {
            like(where + " merge", () -> x.merge(r, q), () -> m.merge(r, q));
        }
    }

    private void compareKeyAnswer(String where, int call, DotStores x, Model m, int r, int part) {
        int k = key(pick(4));
        int i = pickOrOdd(3);
        switch (call) {
            case 12 -> like(where + " has", () -> x.has(r, k, part), () -> m.has(r, k, part));
            case 13 -> like(where + " values", () -> x.values(r, k), () -> m.values(r, k));
            case 14 -> like(where + " value", () -> x.value(r, k, i), () -> m.value(r, k, i));
            case 15 -> like(where + " sum", () -> x.sum(r, k), () -> m.sum(r, k));
            default -> like(where + " keys", () -> x.keys(r), () -> m.keys(r));
        }
    }

    private void compareAnswer(String where, int call, DotStores x, Model m, int r, int part) {
        int q = pickOrOdd(replicas);
        int what = pickOrOdd(3);
        int state = pick(2) == 0 ? r : -2 - pick(m.deltas() + 1);
        switch (call) {
            case 17 -> like(where + " inTwice", () -> x.inTwice(r, part), () -> m.inTwice(r, part));
            case 18 -> like(where + " inTimed", () -> x.inTimed(r, part, what), () -> m.inTimed(r, part, what));
            case 19 -> like(where + " seen", () -> x.seen(r, q, what), () -> m.seen(r, q, what));
            case 20 -> like(where + " size", () -> x.size(state, what), () -> m.size(state, what));
            case 21 -> like(where + " same", () -> x.same(r, q), () -> m.same(r, q));
            case 22 -> like(where + " below", () -> x.below(r, q), () -> m.below(r, q));
            default -> like(where + " deltas", x::deltas, m::deltas);
        }
    }
}
