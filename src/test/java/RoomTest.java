import java.lang.reflect.Array;
import java.lang.reflect.Field;
import java.lang.reflect.Modifier;
import java.util.Collections;
import java.util.IdentityHashMap;
import java.util.Set;

/** All calls of a run live in one room, constructors too: what an object holds is counted. */
public final class RoomTest {

    private static final int CALLS = 512;
    private static final int OBJECTS_OF_A_ROOM = 600000;
    private static final int ELEMENTS_OF_A_ROOM = 7300000;

    private final Set<Object> seen = Collections.newSetFromMap(new IdentityHashMap<>());
    private long elements = 0;

    private void count(Object object) throws IllegalAccessException {
        if (object == null || !seen.add(object)) {
            return;
        }
        if (object.getClass().isArray()) {
            elements += Array.getLength(object);
            for (int at = 0; at < Array.getLength(object) && !object.getClass().getComponentType().isPrimitive(); at++) {
                count(Array.get(object, at));
            }
            return;
        }
        for (Field field : object.getClass().getDeclaredFields()) {
            if (!Modifier.isStatic(field.getModifiers())) {
                elements++;
                field.setAccessible(true);
                if (!field.getType().isPrimitive()) {
                    count(field.get(object));
                }
            }
        }
    }

    private static RoomTest of(IntercompanyLedger ledger) throws IllegalAccessException {
        RoomTest room = new RoomTest();
        room.count(ledger);
        return room;
    }

    public static void main(String[] args) throws IllegalAccessException {
        RoomTest before = of(new IntercompanyLedger());
        System.out.println(before.seen.size() + " objects, " + before.elements + " fields and elements");
        Check.same("objects of a run of constructors", before.seen.size() * CALLS <= OBJECTS_OF_A_ROOM, true);
        Check.same("elements of a run of constructors", before.elements * CALLS <= ELEMENTS_OF_A_ROOM, true);
        IntercompanyLedger ledger = Twins.busy();
        while (ledger.size(3) < 100) {
            ledger.book(0, 1, 0, 7, 7);
        }
        ledger.saveSnapshot(1);
        RoomTest after = of(ledger);
        Check.same("objects after many calls", after.seen.size(), before.seen.size());
        Check.same("elements after many calls", after.elements, before.elements);
        Check.end();
    }
}
