import java.lang.reflect.Array;
import java.lang.reflect.Field;
import java.lang.reflect.Modifier;
import java.util.ArrayDeque;
import java.util.Collections;
import java.util.Deque;
import java.util.IdentityHashMap;
import java.util.Random;
import java.util.Set;

/** Rule 12 of the language: an object takes little room, and its calls take none. */
public final class RoomTest {
    private static final Due due = new Due("RoomTest");
    /** By these some 15,000 objects of the class fit into the room of one run. */
    private static final int MOST_PARTS = 40;
    private static final int MOST_PLACES = 300;

    private final Set<Object> parts = Collections.newSetFromMap(new IdentityHashMap<>());
    private int places;

    public static void main(String[] args) throws IllegalAccessException {
        RoomTest atFirst = of(new ChipTimers());
        due.holds(atFirst.parts.size() + " objects and arrays are at most " + MOST_PARTS,
            atFirst.parts.size() <= MOST_PARTS);
        due.holds(atFirst.places + " fields and elements are at most " + MOST_PLACES, atFirst.places <= MOST_PLACES);
        due.holds("parts were found", atFirst.parts.size() > 20);
        for (int run = 0; run < 50; run++) {
            callsTakeNone(new Random(run));
        }
        due.end();
    }

    /** The same parts, and not only as many: a part made anew would be another one. */
    private static void callsTakeNone(Random random) throws IllegalAccessException {
        ChipTimers x = new ChipTimers();
        RoomTest ahead = of(x);
        for (int i = 0; i < 512; i++) {
            String name = Calls.NAMES[random.nextInt(Calls.NAMES.length)];
            Calls.on(x, name, Calls.numbers(random, name, 20));
        }
        RoomTest behind = of(x);
        due.holds("512 calls leave the parts as they are", behind.parts.equals(ahead.parts));
        due.is("fields and elements behind 512 calls", behind.places, ahead.places);
    }

    private static RoomTest of(ChipTimers x) throws IllegalAccessException {
        RoomTest room = new RoomTest();
        Deque<Object> open = new ArrayDeque<>();
        open.add(x);
        while (!open.isEmpty()) {
            Object part = open.remove();
            if (room.parts.add(part)) {
                room.look(part, open);
            }
        }
        return room;
    }

    private void look(Object part, Deque<Object> open) throws IllegalAccessException {
        if (part.getClass().isArray()) {
            places += Array.getLength(part);
            if (part instanceof Object[] several) {
                for (Object one : several) {
                    keep(one, open);
                }
            }
            return;
        }
        for (Field field : part.getClass().getDeclaredFields()) {
            if (!Modifier.isStatic(field.getModifiers())) {
                places++;
                field.setAccessible(true);
                if (!field.getType().isPrimitive()) {
                    keep(field.get(part), open);
                }
            }
        }
    }

    private static void keep(Object part, Deque<Object> open) {
        if (part != null) {
            open.add(part);
        }
    }
}
