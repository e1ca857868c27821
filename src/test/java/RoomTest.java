import java.lang.reflect.Array;
import java.lang.reflect.Field;
import java.lang.reflect.Modifier;
import java.util.ArrayDeque;
import java.util.Collections;
import java.util.Deque;
import java.util.IdentityHashMap;
import java.util.Set;
import support.Answers;

/** A run's room: even if each of its calls made a new object, all of them would find room in it. */
public final class RoomTest {
    private static final int CALLS = 512;
    private static final int MOST_OBJECTS = 600_000;
    private static final int MOST_ELEMENTS = 7_300_000;

    public static void main(String[] args) throws IllegalAccessException {
        Room made = new Room(new ReleaseLeaves());
        Answers.under("a new object");
        atMost("objects in all calls", CALLS * made.objects, MOST_OBJECTS);
        atMost("fields and elements in all calls", CALLS * made.elements, MOST_ELEMENTS);

        Room used = new Room(usedToItsLimits());
        Answers.under("an object that was used to its limits");
        Answers.is("objects", used.objects, made.objects);
        Answers.is("fields and elements", used.elements, made.elements);
        Answers.end("there is room: " + made.objects + " objects, " + made.elements + " fields and elements");
    }

    private static void atMost(String what, long got, long most) {
        if (got > most) {
            Answers.complain(what + ": " + got + ", at most " + most + " are due");
        }
    }

    private static ReleaseLeaves usedToItsLimits() {
        ReleaseLeaves x = new ReleaseLeaves();
        for (int release = 0; release < 10; release++) {
            Drive.closeWith(x, 8, 7, 6, 5, 4, 3, 2, 1);
            Drive.approveByTwo(x, release);
            x.serial(release);
        }
        Drive.file(x, 1, new int[64]);
        Drive.feed(x, new byte[100]);
        for (int i = 0; i < 60; i++) {
            x.serial(9);
        }
        for (int i = 0; i < 60; i++) {
            x.approve(9, i % 16, i % 4);
        }
        x.checked();
        x.close();
        return x;
    }

    /** What can be reached from an object, itself among it. */
    private static final class Room {
        private final Set<Object> seen = Collections.newSetFromMap(new IdentityHashMap<>());
        private final Deque<Object> waiting = new ArrayDeque<>();
        private long objects;
        private long elements;

        Room(Object first) throws IllegalAccessException {
            reach(first);
            while (!waiting.isEmpty()) {
                count(waiting.remove());
            }
        }

        private void reach(Object next) {
            if (next != null && seen.add(next)) {
                waiting.add(next);
            }
        }

        private void count(Object one) throws IllegalAccessException {
            objects++;
            if (one.getClass().isArray()) {
                countElements(one);
            } else {
                countFields(one);
            }
        }

        private void countElements(Object array) {
            int length = Array.getLength(array);
            elements += length;
            if (array instanceof Object[]) {
                for (Object element : (Object[]) array) {
                    reach(element);
                }
            }
        }

        private void countFields(Object one) throws IllegalAccessException {
            for (Field field : one.getClass().getDeclaredFields()) {
                if (Modifier.isStatic(field.getModifiers())) {
                    continue;
                }
                elements++;
                field.setAccessible(true);
                if (!field.getType().isPrimitive()) {
                    reach(field.get(one));
                }
            }
        }
    }
}
