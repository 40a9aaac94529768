import java.lang.management.ManagementFactory;
import java.lang.reflect.Array;
import java.lang.reflect.Field;
import java.lang.reflect.Modifier;
import java.util.ArrayList;
import java.util.IdentityHashMap;
import java.util.List;
import java.util.Map;

/** All promises: how much room an object takes, that it stays so, and that calls which do not throw make nothing. */
public final class RoomTest {
    private static final int MOST_OBJECTS = 1_000;
    private static final int MOST_ELEMENTS = 40_000;

    private static int objects;
    private static int elements;

    public static void main(String[] args) throws ReflectiveOperationException {
        LetterForms x = new LetterForms();
        measure(x);
        int objectsAtFirst = objects;
        int elementsAtFirst = elements;
        Check.due("objects of one: few", true, () -> objectsAtFirst <= MOST_OBJECTS);
        Check.due("elements of one: few", true, () -> elementsAtFirst <= MOST_ELEMENTS);
        Check.due("calls so far", true, () -> tell(x) + ask(x) + change(x) > 0);
        refused(x);
        measure(x);
        Check.due("objects behind many calls", objectsAtFirst, () -> objects);
        Check.due("elements behind many calls", elementsAtFirst, () -> elements);
        madeByCalls();
        Check.end("RoomTest");
    }

    /** A call that makes even one object would be seen: the least is of 16 bytes. */
    private static void madeByCalls() {
        com.sun.management.ThreadMXBean bean = (com.sun.management.ThreadMXBean) ManagementFactory.getThreadMXBean();
        LetterForms[] row = new LetterForms[10];
        for (int n = 0; n < row.length; n++) {
            row[n] = new LetterForms();
        }
        long id = Thread.currentThread().getId();
        long before = bean.getThreadAllocatedBytes(id);
        int calls = 0;
        for (LetterForms x : row) {
            calls += tell(x) + ask(x) + change(x);
        }
        long made = bean.getThreadAllocatedBytes(id) - before;
        int most = 16 * row.length;
        Check.due("many calls", true, new Above(calls, 1_000)::isSo);
        Check.due("bytes made by " + calls + " calls: " + made, true, new Above(most, made)::isSo);
    }

    private record Above(long more, long less) {
        boolean isSo() {
            return more > less;
        }
    }

    // ==== calls, none of which throws; each of these answers how many there were ====

    private static int tell(LetterForms x) {
        for (int n = 0; n < 16; n++) {
            x.feed(0x01020304 + n, 0x05060708, 0x09000000, 0, 0);
            x.end(n % 9 + 1);
            x.form();
        }
        for (int n = 0; n < 5; n++) {
            x.table(n + 1, n, 1, 1);
        }
        x.join(0, 1);
        x.turn(2);
        for (int n = 0; n < 8; n++) {
            // f*f * [f,-f]0
            x.feed(0x662a6620, 0x2a205b66, 0x2c2d665d, 0x302b666f, 0);
            x.end(13);
            x.signs();
        }
        return 16 * 3 + 5 + 2 + 8 * 3;
    }

    private static int ask(LetterForms x) {
        int calls = 0;
        for (int f = 0; f < 16; f++) {
            x.look(f, 0);
            x.at(f, 2, 3);
            x.value(f % 8, f, 0);
            x.stays(f % 8, f, f % 7);
            x.kind(f);
            x.orbit(f);
            x.keep(f);
            x.same(f, 15 - f);
            x.plain(f);
            x.root(f, f % 12);
            x.roots(f);
            x.empty(f);
            x.quotient(f, 1, 0);
            x.common(f, 2, 0);
            x.overlap(f, 9, 0, 0);
            calls += 15;
        }
        x.powers(5, 0);
        x.agree(0, 1, 4);
        x.rank(0, true);
        x.span(255, 2, 7);
        x.basis(255, 2, 7);
        x.count(8, 6, 4);
        x.det(0);
        x.told(0, 1);
        x.reduced(10, 14, 5, 0);
        x.classes(-9999, true);
        x.reducedAt(-9999, 3, 0);
        x.real(1, 2, 3, 4, 5);
        x.stock(6);
        x.fault();
        return calls + 14;
    }

    private static int change(LetterForms x) {
        x.image();
        for (int n = 0; n < 45; n++) {
            x.mix(n % 16, n % 7);
        }
        for (int n = 0; n < 10; n++) {
            x.undo();
        }
        for (int n = 0; n < 5; n++) {
            x.redo();
        }
        x.back();
        return 1 + 45 + 10 + 5 + 1;
    }

    private static void refused(LetterForms x) {
        Check.full("a 17th", () -> Check.form(x, 1, 2));
        Check.full("a 9th", () -> Check.signs(x, "f"));
        Check.argument("a wrong one", () -> Check.signs(x, "f+"));
        Check.index("none", () -> x.look(16, 0));
        Check.argument("no disc", () -> x.classes(-5, true));
        Check.noElement("another what", () -> x.reduced(1, 0, 1, 9));
    }

    // ==== what an object holds on to ====

    private static void measure(Object first) throws ReflectiveOperationException {
        Map<Object, Boolean> seen = new IdentityHashMap<>();
        List<Object> open = new ArrayList<>();
        objects = 0;
        elements = 0;
        open.add(first);
        while (!open.isEmpty()) {
            Object next = open.remove(open.size() - 1);
            if (next != null && seen.put(next, true) == null) {
                objects++;
                if (next.getClass().isArray()) {
                    openArray(next, open);
                } else {
                    openFields(next, open);
                }
            }
        }
    }

    private static void openArray(Object array, List<Object> open) {
        int length = Array.getLength(array);
        elements += length;
        for (int k = 0; !array.getClass().getComponentType().isPrimitive() && k < length; k++) {
            open.add(Array.get(array, k));
        }
    }

    private static void openFields(Object owner, List<Object> open) throws ReflectiveOperationException {
        for (Field field : owner.getClass().getDeclaredFields()) {
            if (!Modifier.isStatic(field.getModifiers())) {
                elements++;
                field.setAccessible(true);
                if (!field.getType().isPrimitive()) {
                    open.add(field.get(owner));
                }
            }
        }
    }
}
