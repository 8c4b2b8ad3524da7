import java.lang.reflect.Array;
import java.lang.reflect.Field;
import java.lang.reflect.Modifier;
import java.util.ArrayDeque;
import java.util.Collections;
import java.util.Deque;
import java.util.IdentityHashMap;
import java.util.Set;

/** What an object keeps must leave the room for a run (600,000 objects, 7.3 million elements) far from full. */
public final class RoomTest {
    // A tenth of the room: what a call makes and drops again is counted, too, and is not seen here.
    private static final int MOST_OBJECTS = 60_000;
    private static final int MOST_ELEMENTS = 730_000;

    private static final Check CHECK = new Check();

    private int objects = 0;
    private int elements = 0;

    public static void main(String[] args) throws IllegalAccessException {
        look("a new object", new DotStores());
        look("dots", allDots());
        look("whole states", allWhole());
        CHECK.end();
    }

    private static DotStores allDots() {
        DotStores x = new DotStores();
        for (int i = 0; i < 250; i++) {
            x.element(i % 6, 0, i % 32, true);
            x.value(i % 6, 0, 0);
        }
        return x;
    }

    private static DotStores allWhole() {
        DotStores x = new DotStores();
        for (int i = 0; i < 125; i++) {
            x.write(i % 6, 1, i);
            x.whole(i % 6);
            x.below(0, i % 6);
        }
        return x;
    }

    private static void look(String what, DotStores x) throws IllegalAccessException {
        RoomTest room = new RoomTest();
        room.walk(x);
        System.out.println(what + ": " + room.objects + " objects, " + room.elements + " elements");
        CHECK.due(what + " keeps few objects", 1, () -> room.objects <= MOST_OBJECTS ? 1 : 0);
        CHECK.due(what + " keeps few elements", 1, () -> room.elements <= MOST_ELEMENTS ? 1 : 0);
    }

    private void walk(Object root) throws IllegalAccessException {
        Set<Object> met = Collections.newSetFromMap(new IdentityHashMap<>());
        Deque<Object> open = new ArrayDeque<>();
        open.add(root);
        while (!open.isEmpty()) {
            Object o = open.remove();
            if (met.add(o)) {
                objects++;
                if (o.getClass().isArray()) {
                    walkArray(o, open);
                } else {
                    walkFields(o, open);
                }
            }
        }
    }

    private void walkArray(Object array, Deque<Object> open) {
        int length = Array.getLength(array);
        elements += length;
        for (int i = 0; i < length && !array.getClass().getComponentType().isPrimitive(); i++) {
            if (Array.get(array, i) != null) {
                open.add(Array.get(array, i));
            }
        }
    }

    private void walkFields(Object o, Deque<Object> open) throws IllegalAccessException {
        for (Field f : o.getClass().getDeclaredFields()) {
            if (Modifier.isStatic(f.getModifiers())) {
                continue;
            }
            elements++;
            f.setAccessible(true);
            if (!f.getType().isPrimitive() && f.get(o) != null) {
                open.add(f.get(o));
            }
        }
    }
}
