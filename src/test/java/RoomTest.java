import java.lang.reflect.Array;
import java.lang.reflect.Field;
import java.lang.reflect.Modifier;
import java.util.ArrayList;
import java.util.Collections;
import java.util.IdentityHashMap;
import java.util.List;
import java.util.Set;

/** How much of the room, that all calls of a run share, a hall takes; and that its calls add none. */
public final class RoomTest {
    // The room has 7.3 million fields and elements and 600,000 objects, for some 350 halls.
    private static final int MOST_FIELDS = 20000;
    private static final int MOST_OBJECTS = 50;

    private int objects = 0;
    private int fields = 0;

    private RoomTest(Object hall) throws IllegalAccessException {
        Set<Object> seen = Collections.newSetFromMap(new IdentityHashMap<>());
        List<Object> found = new ArrayList<>();
        found.add(hall);
        seen.add(hall);
        for (int i = 0; i < found.size(); i++) {
            for (Object part : parts(found.get(i))) {
                if (seen.add(part)) {
                    found.add(part);
                }
            }
        }
        objects = found.size();
    }

    /** Counts an object's fields or elements, and tells those that are objects. */
    private List<Object> parts(Object whole) throws IllegalAccessException {
        List<Object> parts = new ArrayList<>();
        if (whole.getClass().isArray()) {
            fields += Array.getLength(whole);
            if (!whole.getClass().getComponentType().isPrimitive()) {
                Collections.addAll(parts, (Object[]) whole);
            }
        } else {
            for (Field field : whole.getClass().getDeclaredFields()) {
                if (!Modifier.isStatic(field.getModifiers())) {
                    fields++;
                    field.setAccessible(true);
                    if (!field.getType().isPrimitive()) {
                        parts.add(field.get(whole));
                    }
                }
            }
        }
        parts.removeIf(part -> part == null);
        return parts;
    }

    /** Orders in layers of one, very many trades with them, and orders for all but the last call. */
    private static TradeHall used() {
        TradeHall x = new TradeHall();
        x.deposit(1, 1000000000);
        x.grant(2, 0, 1000000);
        for (int i = 0; i < 99; i++) {
            x.order(2, 0, 1, 4, 1, 10000, 1);
        }
        for (int i = 0; i < 90; i++) {
            x.order(1, 0, 0, i % 2 == 0 ? 1 : 2, 1, 10000, 0);
        }
        for (int i = 0; i < 320; i++) {
            x.order(1, 1, 0, 1, 1, 1, 0);
        }
        return x;
    }

    public static void main(String[] args) throws IllegalAccessException {
        RoomTest fresh = new RoomTest(new TradeHall());
        Check.due("objects", Math.min(fresh.objects, MOST_OBJECTS), () -> fresh.objects);
        Check.due("fields and elements", Math.min(fresh.fields, MOST_FIELDS), () -> fresh.fields);
        TradeHall hall = used();
        Check.due("trades", 900000, () -> hall.count(0));
        RoomTest full = new RoomTest(hall);
        Check.due("objects when it was used", fresh.objects, () -> full.objects);
        Check.due("fields and elements when it was used", fresh.fields, () -> full.fields);
        System.out.println("a hall: " + fresh.objects + " objects and arrays, " + fresh.fields
                + " fields and elements");
        Check.end("RoomTest");
    }
}
