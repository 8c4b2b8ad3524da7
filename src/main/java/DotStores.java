/**
 * Six replicas of one state that change it apart from each other and join what others did, by numbered
 * deltas. ../shared/DOC.md says what each call promises; words in capitals are its terms.
 */
public final class DotStores {
    public static final int NONE = -1;

    private static final int REPLICAS = 6;
    private static final int KEYS = 16;
    private static final int PARTS = 32;
    private static final int FLAGS = 8;
    private static final int MOST_DELTAS = 250;
    private static final int MOST_DOTS_EACH = 100;
    private static final int LAST_TIME = 1000000;

    private static final int KINDS = 4;
    private static final int SET = 0;
    private static final int REGISTER = 1;
    private static final int COUNTER = 2;
    private static final int MAP = 3;

    // Each dot comes with a delta of its own, so there are never more dots than deltas.
    private static final int MOST_DOTS = MOST_DELTAS;
    private static final int WORD_BITS = 64;
    private static final int WORDS = (MOST_DOTS + WORD_BITS - 1) / WORD_BITS;

    private final State[] replicas = new State[REPLICAS];
    private final State[] made = new State[MOST_DELTAS];
    private final Dots dots = new Dots();
    private final State trial = new State();
    private final long[] ordered = new long[MOST_DOTS];
    private int madeCount = 0;

    public DotStores() {
        for (int r = 0; r < REPLICAS; r++) {
            replicas[r] = new State();
        }
    }

    // ---- changes

    public int element(int r, int key, int e, boolean on)
            throws IndexOutOfBoundsException, UnsupportedOperationException, IllegalStateException {
        State own = replicaAt(r);
        requireIndex(key, KEYS);
        requireIndex(e, PARTS);
        requireKind(key, SET);
        return turn(own, r, key, e, on);
    }

    public int write(int r, int key, long v)
            throws IndexOutOfBoundsException, UnsupportedOperationException, IllegalStateException {
        State own = replicaAt(r);
        requireIndex(key, KEYS);
        requireKind(key, REGISTER);
        requireDot(r);
        State delta = openDelta();
        takeBack(own, delta, key, NONE, NONE);
        delta.enliven(dots.make(r, key, 0, v));
        return finish(own, delta);
    }

    public int count(int r, int key, long x)
            throws IndexOutOfBoundsException, UnsupportedOperationException, IllegalStateException {
        State own = replicaAt(r);
        requireIndex(key, KEYS);
        requireKind(key, COUNTER);
        requireDot(r);
        State delta = openDelta();
        long before = takeBack(own, delta, key, NONE, r);
        delta.enliven(dots.make(r, key, 0, before + x));
        return finish(own, delta);
    }

    public int flag(int r, int key, int part, boolean on)
            throws IndexOutOfBoundsException, UnsupportedOperationException, IllegalStateException {
        State own = replicaAt(r);
        requireIndex(key, KEYS);
        requireIndex(part, FLAGS);
        requireKind(key, MAP);
        return turn(own, r, key, part, on);
    }

    public int clear(int r, int key) throws IndexOutOfBoundsException, IllegalStateException {
        State own = replicaAt(r);
        requireIndex(key, KEYS);
        State delta = openDelta();
        takeBack(own, delta, key, NONE, NONE);
        return finish(own, delta);
    }

    public int twice(int r, int e, boolean put) throws IndexOutOfBoundsException, IllegalStateException {
        State own = replicaAt(r);
        requireIndex(e, PARTS);
        State delta = openDelta();
        if (put) {
            delta.put = 1 << e;
        } else {
            delta.taken = 1 << e;
        }
        return finish(own, delta);
    }

    public int timed(int r, int e, int time, boolean in)
            throws IndexOutOfBoundsException, IllegalArgumentException, IllegalStateException {
        State own = replicaAt(r);
        requireIndex(e, PARTS);
        requireTime(time);
        State delta = openDelta();
        delta.stamps[e] = stamp(time, r, in);
        return finish(own, delta);
    }

    // ---- joins

    public int join(int r, int d) throws IndexOutOfBoundsException {
        State own = replicaAt(r);
        return bit(own.take(deltaAt(d)));
    }

    public int merge(int r, int q) throws IndexOutOfBoundsException {
        State own = replicaAt(r);
        return bit(own.take(replicaAt(q)));
    }

    public int group(int d, int e) throws IndexOutOfBoundsException, IllegalStateException {
        State one = deltaAt(d);
        State other = deltaAt(e);
        State delta = openDelta();
        delta.become(one);
        delta.take(other);
        return madeCount - 1;
    }

    public int whole(int r) throws IndexOutOfBoundsException, IllegalStateException {
        State own = replicaAt(r);
        openDelta().become(own);
        return madeCount - 1;
    }

    public int deltas() {
        return madeCount;
    }

    // ---- answers

    public int has(int r, int key, int part) throws IndexOutOfBoundsException {
        State own = replicaAt(r);
        requireIndex(key, KEYS);
        requireIndex(part, PARTS);
        for (int dot = 0; dot < dots.count; dot++) {
            if (own.isLive(dot) && dots.fits(dot, key, part, NONE)) {
                return 1;
            }
        }
        return 0;
    }

    public int values(int r, int key) throws IndexOutOfBoundsException {
        State own = replicaAt(r);
        requireIndex(key, KEYS);
        return orderValues(own, key);
    }

    public long value(int r, int key, int i) throws IndexOutOfBoundsException {
        State own = replicaAt(r);
        requireIndex(key, KEYS);
        requireIndex(i, orderValues(own, key));
        return ordered[i];
    }

    public long sum(int r, int key) throws IndexOutOfBoundsException {
        State own = replicaAt(r);
        requireIndex(key, KEYS);
        long total = 0;
        for (int dot = 0; dot < dots.count; dot++) {
            if (own.isLive(dot) && dots.fits(dot, key, NONE, NONE)) {
                total += dots.value[dot];
            }
        }
        return total;
    }

    public int keys(int r) throws IndexOutOfBoundsException {
        State own = replicaAt(r);
        int bits = 0;
        for (int dot = 0; dot < dots.count; dot++) {
            if (own.isLive(dot)) {
                bits |= 1 << dots.key[dot];
            }
        }
        return bits;
    }

    public int inTwice(int r, int e) throws IndexOutOfBoundsException {
        State own = replicaAt(r);
        requireIndex(e, PARTS);
        return (own.put & ~own.taken) >>> e & 1;
    }

    public int inTimed(int r, int e, int what) throws IndexOutOfBoundsException {
        State own = replicaAt(r);
        requireIndex(e, PARTS);
        requireIndex(what, 3);
        int stamp = own.stamps[e];
        if (what == 0) {
            return bit(stampIsIn(stamp));
        }
        if (stamp == 0) {
            return NONE;
        }
        return what == 1 ? stampTime(stamp) : stampReplica(stamp);
    }

    public int seen(int r, int q, int what) throws IndexOutOfBoundsException {
        State own = replicaAt(r);
        requireIndex(q, REPLICAS);
        requireIndex(what, 3);
        int unbroken = 0;
        int all = 0;
        int greatest = 0;
        // A replica's dots stand in the table in the order of their numbers, so one walk meets any gap.
        for (int dot = 0; dot < dots.count; dot++) {
            if (dots.replica[dot] == q && own.isSeen(dot)) {
                all++;
                greatest = dots.number[dot];
                if (greatest == unbroken + 1) {
                    unbroken = greatest;
                }
            }
        }
        if (what == 0) {
            return unbroken;
        }
        return what == 1 ? all : greatest;
    }

    public int size(int r, int what) throws IndexOutOfBoundsException {
        State state = r < NONE ? deltaAt(NONE - 1 - r) : replicaAt(r);
        requireIndex(what, 2);
        return what == 0 ? bitsIn(state.live) : bitsIn(state.seen);
    }

    public int same(int r, int q) throws IndexOutOfBoundsException {
        State one = replicaAt(r);
        return bit(one.isLike(replicaAt(q)));
    }

    public int below(int r, int q) throws IndexOutOfBoundsException {
        State lower = replicaAt(r);
        trial.become(replicaAt(q));
        return bit(!trial.take(lower));
    }

    // ---- what is asked for, or refused

    private State replicaAt(int r) {
        if (r < 0 || r >= replicas.length || replicas[r] == null) {
            throw new IndexOutOfBoundsException("no such replica");
        }
        return replicas[r];
    }

    private State deltaAt(int d) {
        if (d < 0 || d >= made.length || made[d] == null) {
            throw new IndexOutOfBoundsException("no such delta");
        }
        return made[d];
    }

    private static void requireIndex(int i, int bound) {
        if (i < 0 || i >= bound) {
            throw new IndexOutOfBoundsException("no such key, part, element, value or question");
        }
    }

    private static void requireKind(int key, int kind) {
        if (key % KINDS != kind) {
            throw new UnsupportedOperationException("the key is of another kind");
        }
    }

    private static void requireTime(int time) {
        if (time < 0 || time > LAST_TIME) {
            throw new IllegalArgumentException("no such time");
        }
    }

    private void requireDot(int r) {
        if (!dots.canMake(r)) {
            throw new IllegalStateException("the replica has no dot any more");
        }
    }

    // ---- how a change is made

    /** Every refusal comes before this call or in it, so that a refused change leaves no delta behind. */
    private State openDelta() {
        if (madeCount < 0 || madeCount >= made.length) {
            throw new IllegalStateException("there are as many deltas as may be");
        }
        State delta = new State();
        made[madeCount] = delta;
        madeCount++;
        return delta;
    }

    private int finish(State own, State delta) {
        own.take(delta);
        return madeCount - 1;
    }

    private int turn(State own, int r, int key, int part, boolean on) {
        if (on) {
            requireDot(r);
        }
        State delta = openDelta();
        takeBack(own, delta, key, part, NONE);
        if (on) {
            delta.enliven(dots.make(r, key, part, 0));
        }
        return finish(own, delta);
    }

    /** Answers the VALUES of what it takes back together, since a counter's next dot carries them on. */
    private long takeBack(State own, State delta, int key, int part, int replica) {
        long total = 0;
        for (int dot = 0; dot < dots.count; dot++) {
            if (own.isLive(dot) && dots.fits(dot, key, part, replica)) {
                delta.see(dot);
                total += dots.value[dot];
            }
        }
        return total;
    }

    // ---- values in their order

    private int orderValues(State own, int key) {
        int found = 0;
        for (int dot = 0; dot < dots.count; dot++) {
            if (own.isLive(dot) && dots.fits(dot, key, NONE, NONE)) {
                found = orderValue(dots.value[dot], found);
            }
        }
        return found;
    }

    private int orderValue(long v, int found) {
        int at = 0;
        while (at < found && ordered[at] < v) {
            at++;
        }
        if (at < found && ordered[at] == v) {
            return found;
        }
        for (int i = found; i > at; i--) {
            ordered[i] = ordered[i - 1];
        }
        ordered[at] = v;
        return found + 1;
    }

    // ---- stamps: the greater number is the one that TIMED keeps, and 0, nothing, is the least

    private static int stamp(int time, int r, boolean in) {
        return 1 + (time * REPLICAS + r) * 2 + bit(in);
    }

    private static boolean stampIsIn(int stamp) {
        return stamp > 0 && (stamp - 1) % 2 == 1;
    }

    private static int stampReplica(int stamp) {
        return (stamp - 1) / 2 % REPLICAS;
    }

    private static int stampTime(int stamp) {
        return (stamp - 1) / 2 / REPLICAS;
    }

    private static int bit(boolean b) {
        return b ? 1 : 0;
    }

    private static int bitsIn(long[] words) {
        int bits = 0;
        for (int w = 0; w < words.length; w++) {
            bits += Long.bitCount(words[w]);
        }
        return bits;
    }

    /**
     * Every dot that was made, in the order of making. A dot's key, part and value never change, so they are
     * kept here once, and a state holds no more than a bit for each dot.
     */
    private static final class Dots {
        final int[] replica = new int[MOST_DOTS];
        final int[] number = new int[MOST_DOTS];
        final int[] key = new int[MOST_DOTS];
        final int[] part = new int[MOST_DOTS];
        final long[] value = new long[MOST_DOTS];
        // A replica has always SEEN all of its own dots: how many it made is the greatest number among them.
        final int[] greatest = new int[REPLICAS];
        int count = 0;

        boolean canMake(int r) {
            return count < MOST_DOTS && greatest[r] < MOST_DOTS_EACH;
        }

        int make(int r, int k, int p, long v) {
            int dot = count;
            greatest[r]++;
            replica[dot] = r;
            number[dot] = greatest[r];
            key[dot] = k;
            part[dot] = p;
            value[dot] = v;
            count++;
            return dot;
        }

        /** NONE as part or replica stands for any. */
        boolean fits(int dot, int k, int p, int r) {
            return key[dot] == k && (p == NONE || part[dot] == p) && (r == NONE || replica[dot] == r);
        }
    }

    /** A replica's state, or a delta's. */
    private static final class State {
        final long[] seen = new long[WORDS];
        final long[] live = new long[WORDS];
        final int[] stamps = new int[PARTS];
        int put = 0;
        int taken = 0;

        boolean isSeen(int dot) {
            return (seen[dot / WORD_BITS] >>> dot % WORD_BITS & 1L) != 0;
        }

        boolean isLive(int dot) {
            return (live[dot / WORD_BITS] >>> dot % WORD_BITS & 1L) != 0;
        }

        void see(int dot) {
            seen[dot / WORD_BITS] |= 1L << dot % WORD_BITS;
        }

        void enliven(int dot) {
            see(dot);
            live[dot / WORD_BITS] |= 1L << dot % WORD_BITS;
        }

        /** Joins another state to this one: whether this became another one. */
        boolean take(State other) {
            boolean dotsChanged = takeDots(other);
            boolean twiceChanged = takeTwice(other);
            boolean timedChanged = takeTimed(other);
            return dotsChanged || twiceChanged || timedChanged;
        }

        private boolean takeDots(State other) {
            boolean changed = false;
            for (int w = 0; w < WORDS; w++) {
                long kept = live[w] & (other.live[w] | ~other.seen[w]);
                long nowLive = kept | other.live[w] & ~seen[w];
                long nowSeen = seen[w] | other.seen[w];
                if (nowLive != live[w] || nowSeen != seen[w]) {
                    changed = true;
                }
                live[w] = nowLive;
                seen[w] = nowSeen;
            }
            return changed;
        }

        private boolean takeTwice(State other) {
            int nowPut = put | other.put;
            int nowTaken = taken | other.taken;
            boolean changed = nowPut != put || nowTaken != taken;
            put = nowPut;
            taken = nowTaken;
            return changed;
        }

        private boolean takeTimed(State other) {
            boolean changed = false;
            for (int e = 0; e < PARTS; e++) {
                if (other.stamps[e] > stamps[e]) {
                    stamps[e] = other.stamps[e];
                    changed = true;
                }
            }
            return changed;
        }

        void become(State other) {
            System.arraycopy(other.seen, 0, seen, 0, WORDS);
            System.arraycopy(other.live, 0, live, 0, WORDS);
            System.arraycopy(other.stamps, 0, stamps, 0, PARTS);
            put = other.put;
            taken = other.taken;
        }

        boolean isLike(State other) {
            boolean like = put == other.put && taken == other.taken;
            for (int w = 0; w < WORDS; w++) {
                like = like && seen[w] == other.seen[w] && live[w] == other.live[w];
            }
            for (int e = 0; e < PARTS; e++) {
                like = like && stamps[e] == other.stamps[e];
            }
            return like;
        }
    }
}
