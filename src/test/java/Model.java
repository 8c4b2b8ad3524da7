import java.util.ArrayList;
import java.util.List;
import java.util.Map;
import java.util.Set;
import java.util.TreeMap;
import java.util.TreeSet;

/** The document's terms written out as they stand there, with sets and maps: slow, and held otherwise than the class. */
final class Model {
    record Dot(int replica, int number) implements Comparable<Dot> {
        @Override
        public int compareTo(Dot o) {
            return replica != o.replica ? Integer.compare(replica, o.replica) : Integer.compare(number, o.number);
        }
    }

    record Entry(int key, int part, long value) {
    }

    record Timed(int time, int replica, boolean in) {
        boolean before(Timed o) {
            if (time != o.time) {
                return time < o.time;
            }
            if (replica != o.replica) {
                return replica < o.replica;
            }
            return !in && o.in;
        }
    }

    record State(Set<Dot> seen, Map<Dot, Entry> live, Set<Integer> put, Set<Integer> taken, Map<Integer, Timed> timed) {
        State() {
            this(new TreeSet<>(), new TreeMap<>(), new TreeSet<>(), new TreeSet<>(), new TreeMap<>());
        }
    }

    private final State[] replicas = new State[6];
    private final List<State> deltas = new ArrayList<>();

    Model() {
        for (int r = 0; r < 6; r++) {
            replicas[r] = new State();
        }
    }

    static State joined(State a, State b) {
        State c = new State();
        c.seen.addAll(a.seen);
        c.seen.addAll(b.seen);
        addLive(c, a, b);
        addLive(c, b, a);
        c.put.addAll(a.put);
        c.put.addAll(b.put);
        c.taken.addAll(a.taken);
        c.taken.addAll(b.taken);
        c.timed.putAll(a.timed);
        for (Map.Entry<Integer, Timed> t : b.timed.entrySet()) {
            Timed old = c.timed.get(t.getKey());
            if (old == null || old.before(t.getValue())) {
                c.timed.put(t.getKey(), t.getValue());
            }
        }
        return c;
    }

    private static void addLive(State c, State one, State other) {
        for (Map.Entry<Dot, Entry> l : one.live.entrySet()) {
            if (other.live.containsKey(l.getKey()) || !other.seen.contains(l.getKey())) {
                c.live.put(l.getKey(), l.getValue());
            }
        }
    }

    private State replica(int r) {
        index(r, 6);
        return replicas[r];
    }

    private State delta(int d) {
        index(d, deltas.size());
        return deltas.get(d);
    }

    private static void index(int i, int bound) {
        if (i < 0 || i >= bound) {
            throw new IndexOutOfBoundsException();
        }
    }

    private static void kind(int key, int kind) {
        if (key % 4 != kind) {
            throw new UnsupportedOperationException();
        }
    }

    private void room() {
        if (deltas.size() >= 250) {
            throw new IllegalStateException();
        }
    }

    private Dot newDot(int r) {
        int number = seen(r, r, 2) + 1;
        if (number > 100) {
            throw new IllegalStateException();
        }
        return new Dot(r, number);
    }

    private int keep(State delta) {
        deltas.add(delta);
        return deltas.size() - 1;
    }

    private int change(int r, State delta) {
        replicas[r] = joined(replicas[r], delta);
        return keep(delta);
    }

    private static long takeBack(State own, State delta, int key, int part, int replica) {
        long total = 0;
        for (Map.Entry<Dot, Entry> l : own.live.entrySet()) {
            Entry e = l.getValue();
            boolean wanted = (part < 0 || e.part == part) && (replica < 0 || l.getKey().replica == replica);
            if (e.key == key && wanted) {
                delta.seen.add(l.getKey());
                total += e.value;
            }
        }
        return total;
    }

    private static void enliven(State delta, Dot dot, int key, int part, long value) {
        delta.seen.add(dot);
        delta.live.put(dot, new Entry(key, part, value));
    }

    private int turn(int r, int key, int part, boolean on) {
        room();
        State delta = new State();
        takeBack(replicas[r], delta, key, part, -1);
        if (on) {
            enliven(delta, newDot(r), key, part, 0);
        }
        return change(r, delta);
    }

    int element(int r, int key, int e, boolean on) {
        index(r, 6);
        index(key, 16);
        index(e, 32);
        kind(key, 0);
        return turn(r, key, e, on);
    }

    int write(int r, int key, long v) {
        index(r, 6);
        index(key, 16);
        kind(key, 1);
        room();
        State delta = new State();
        takeBack(replicas[r], delta, key, -1, -1);
        enliven(delta, newDot(r), key, 0, v);
        return change(r, delta);
    }

    int count(int r, int key, long x) {
        index(r, 6);
        index(key, 16);
        kind(key, 2);
        room();
        State delta = new State();
        long before = takeBack(replicas[r], delta, key, -1, r);
        enliven(delta, newDot(r), key, 0, before + x);
        return change(r, delta);
    }

    int flag(int r, int key, int part, boolean on) {
        index(r, 6);
        index(key, 16);
        index(part, 8);
        kind(key, 3);
        return turn(r, key, part, on);
    }

    int clear(int r, int key) {
        index(r, 6);
        index(key, 16);
        room();
        State delta = new State();
        takeBack(replicas[r], delta, key, -1, -1);
        return change(r, delta);
    }

    int twice(int r, int e, boolean put) {
        index(r, 6);
        index(e, 32);
        room();
        State delta = new State();
        (put ? delta.put : delta.taken).add(e);
        return change(r, delta);
    }

    int timed(int r, int e, int time, boolean in) {
        index(r, 6);
        index(e, 32);
        if (time < 0 || time > 1000000) {
            throw new IllegalArgumentException();
        }
        room();
        State delta = new State();
        delta.timed.put(e, new Timed(time, r, in));
        return change(r, delta);
    }

    private int take(int r, State other) {
        State now = joined(replicas[r], other);
        boolean changed = !now.equals(replicas[r]);
        replicas[r] = now;
        return changed ? 1 : 0;
    }

    int join(int r, int d) {
        index(r, 6);
        return take(r, delta(d));
    }

    int merge(int r, int q) {
        index(r, 6);
        return take(r, replica(q));
    }

    int group(int d, int e) {
        State both = joined(delta(d), delta(e));
        room();
        return keep(both);
    }

    int whole(int r) {
        State own = replica(r);
        room();
        return keep(joined(own, new State()));
    }

    int deltas() {
        return deltas.size();
    }

    int has(int r, int key, int part) {
        State own = replica(r);
        index(key, 16);
        index(part, 32);
        return own.live.values().stream().anyMatch(l -> l.key == key && l.part == part) ? 1 : 0;
    }

    private long[] ordered(int r, int key) {
        State own = replica(r);
        index(key, 16);
        return own.live.values().stream().filter(l -> l.key == key).mapToLong(Entry::value).distinct().sorted().toArray();
    }

    int values(int r, int key) {
        return ordered(r, key).length;
    }

    long value(int r, int key, int i) {
        long[] all = ordered(r, key);
        index(i, all.length);
        return all[i];
    }

    long sum(int r, int key) {
        State own = replica(r);
        index(key, 16);
        return own.live.values().stream().filter(l -> l.key == key).mapToLong(Entry::value).sum();
    }

    int keys(int r) {
        int bits = 0;
        for (Entry l : replica(r).live.values()) {
            bits |= 1 << l.key;
        }
        return bits;
    }

    int inTwice(int r, int e) {
        State own = replica(r);
        index(e, 32);
        return own.put.contains(e) && !own.taken.contains(e) ? 1 : 0;
    }

    int inTimed(int r, int e, int what) {
        State own = replica(r);
        index(e, 32);
        index(what, 3);
        Timed t = own.timed.get(e);
        if (t == null) {
            return what == 0 ? 0 : -1;
        }
        if (what == 0) {
            return t.in ? 1 : 0;
        }
        return what == 1 ? t.time : t.replica;
    }

    int seen(int r, int q, int what) {
        State own = replica(r);
        index(q, 6);
        index(what, 3);
        int unbroken = 0;
        while (own.seen.contains(new Dot(q, unbroken + 1))) {
            unbroken++;
        }
        int[] numbers = own.seen.stream().filter(d -> d.replica == q).mapToInt(Dot::number).toArray();
        int greatest = 0;
        for (int n : numbers) {
            greatest = Math.max(greatest, n);
        }
        return what == 0 ? unbroken : what == 1 ? numbers.length : greatest;
    }

    int size(int r, int what) {
        State state = r <= -2 ? delta(-2 - r) : replica(r);
        index(what, 2);
        return what == 0 ? state.live.size() : state.seen.size();
    }

    int same(int r, int q) {
        return replica(r).equals(replica(q)) ? 1 : 0;
    }

    int below(int r, int q) {
        return joined(replica(r), replica(q)).equals(replica(q)) ? 1 : 0;
    }
}
