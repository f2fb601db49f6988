import java.lang.reflect.Array;
import java.lang.reflect.Field;
import java.lang.reflect.Modifier;
import java.util.ArrayDeque;
import java.util.Collections;
import java.util.Deque;
import java.util.IdentityHashMap;
import java.util.Set;

/** The room that a house takes, all of it when it is made: no call makes more (SourceTests), so a run can have many. */
final class RoomTests {
    private static final int HOUSES = 200;
    private static final int MOST_OBJECTS = 600_000;
    private static final int MOST_ELEMENTS = 7_300_000;

    private final Set<Object> seen = Collections.newSetFromMap(new IdentityHashMap<>());
    private final Deque<Object> waiting = new ArrayDeque<>();
    private int elements;

    private RoomTests() {
    }

    static void run() {
        RoomTests room = new RoomTests();
        try {
            room.count(new SlipHouse());
        } catch (IllegalAccessException e) {
            Check.due("R12 the house can be looked at", false, true);
        }
        int objects = room.seen.size();
        Check.due("R12 objects and arrays of a house: " + objects, objects <= MOST_OBJECTS / HOUSES, true);
        Check.due("R12 fields and elements of a house: " + room.elements, room.elements <= MOST_ELEMENTS / HOUSES,
            true);
        Check.due("R12 the house was looked at", objects > 10 && room.elements > 1000, true);
    }

    private void count(Object house) throws IllegalAccessException {
        meet(house);
        while (!waiting.isEmpty()) {
            Object next = waiting.remove();
            if (next.getClass().isArray()) {
                countArray(next);
            } else {
                countFields(next);
            }
        }
    }

    private void countArray(Object array) {
        int length = Array.getLength(array);
        elements += length;
        for (int i = 0; i < length && !array.getClass().getComponentType().isPrimitive(); i++) {
            meet(Array.get(array, i));
        }
    }

    private void countFields(Object of) throws IllegalAccessException {
        for (Field field : of.getClass().getDeclaredFields()) {
            if (!Modifier.isStatic(field.getModifiers())) {
                elements++;
                field.setAccessible(true);
                if (!field.getType().isPrimitive()) {
                    meet(field.get(of));
                }
            }
        }
    }

    private void meet(Object part) {
        if (part != null && seen.add(part)) {
            waiting.add(part);
        }
    }
}
