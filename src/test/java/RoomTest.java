import java.lang.reflect.Array;
import java.lang.reflect.Field;
import java.lang.reflect.Modifier;
import java.util.ArrayDeque;
import java.util.Collections;
import java.util.Deque;
import java.util.IdentityHashMap;
import java.util.Set;

/**
 * Counts the objects, fields and elements of a store behind its dearest runs. The class never drops
 * what it has made, so what can be reached at the end is all that was made.
 */
public final class RoomTest {
    private static final int CALLS = 512;
    private static final int MOST_OBJECTS = 600_000 / 100;
    private static final int MOST_ELEMENTS = 7_300_000 / 10;

    private static final Check CHECK = new Check();

    public static void main(String[] args) throws IllegalAccessException {
        count("a new object", new PageStore());
        count("one big commit", oneBigCommit());
        count("all old pages changed", allOldPagesChanged());
        count("marks over and over", marksOverAndOver());
        count("commits over and over", commitsOverAndOver());
        CHECK.end();
    }

    private static PageStore oneBigCommit() {
        PageStore x = new PageStore();
        x.begin();
        for (int i = 0; i < CALLS - 2; i++) {
            x.add();
        }
        x.commit();
        return x;
    }

    private static PageStore allOldPagesChanged() {
        PageStore x = new PageStore();
        x.begin();
        for (int i = 0; i < 253; i++) {
            x.add();
        }
        x.commit();
        x.begin();
        x.mark();
        for (int p = 0; p < 253; p++) {
            x.put(p, 0, 1);
        }
        x.keep(1);
        x.commit();
        x.reopen();
        return x;
    }

    private static PageStore marksOverAndOver() {
        PageStore x = new PageStore();
        x.begin();
        for (int p = 0; p < 40; p++) {
            x.add();
        }
        for (int i = 0; i < 110; i++) {
            x.mark();
            x.put(i % 40, 0, i);
            x.put(i * 7 % 40, 1, i);
            if (i % 5 == 4) {
                x.keep(1 + i % 3);
            }
            if (x.told(2) == 5) {
                x.back(3);
            }
        }
        x.commit();
        return x;
    }

    private static PageStore commitsOverAndOver() {
        PageStore x = new PageStore();
        for (int i = 0; i < CALLS / 4; i++) {
            x.begin();
            int p = x.add();
            x.put(p / 2, 3, i);
            x.commit();
        }
        return x;
    }

    private static void count(String what, PageStore x) throws IllegalAccessException {
        Set<Object> seen = Collections.newSetFromMap(new IdentityHashMap<>());
        Deque<Object> open = new ArrayDeque<>();
        open.add(x);
        seen.add(x);
        long elements = 0;
        while (!open.isEmpty()) {
            Object o = open.remove();
            elements += o.getClass().isArray() ? elementsOf(o, seen, open) : fieldsOf(o, seen, open);
        }
        System.out.println(what + ": " + seen.size() + " objects, " + elements + " fields and elements");
        CHECK.same(what + ": few objects", Boolean.toString(seen.size() <= MOST_OBJECTS), "true");
        CHECK.same(what + ": few elements", Boolean.toString(elements <= MOST_ELEMENTS), "true");
    }

    private static long elementsOf(Object array, Set<Object> seen, Deque<Object> open) {
        int length = Array.getLength(array);
        if (!array.getClass().getComponentType().isPrimitive()) {
            for (int i = 0; i < length; i++) {
                meet(Array.get(array, i), seen, open);
            }
        }
        return length;
    }

    private static long fieldsOf(Object o, Set<Object> seen, Deque<Object> open) throws IllegalAccessException {
        long fields = 0;
        for (Field f : o.getClass().getDeclaredFields()) {
            if (!Modifier.isStatic(f.getModifiers())) {
                fields++;
                f.setAccessible(true);
                if (!f.getType().isPrimitive()) {
                    meet(f.get(o), seen, open);
                }
            }
        }
        return fields;
    }

    private static void meet(Object o, Set<Object> seen, Deque<Object> open) {
        if (o != null && seen.add(o)) {
            open.add(o);
        }
    }
}
