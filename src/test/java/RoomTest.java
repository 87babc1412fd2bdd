import java.lang.reflect.Array;
import java.lang.reflect.Field;
import java.lang.reflect.Modifier;
import java.util.ArrayList;
import java.util.IdentityHashMap;
import java.util.List;
import java.util.Map;

/** The room that an object takes: it is made with the object, no call makes more of it, and no two objects share it. */
public final class RoomTest extends Due {
    /** A run may make an object for each of 512 calls, and all of them still fit into the one room. */
    private static final int MOST_OBJECTS = 600000 / 512;
    private static final int MOST_PARTS = 7300000 / 512;

    public static void main(String[] args) throws IllegalAccessException {
        promise = 1;
        CloudStrings x = new CloudStrings();
        Map<Object, Object> room = roomOf(x);
        due("objects and arrays: " + room.size(), true, room.size() <= MOST_OBJECTS);
        due("fields and elements: " + partsOf(room), true, partsOf(room) <= MOST_PARTS);
        due("it was seen", true, room.size() > 50 && partsOf(room) > 500);
        CloudStrings y = new CloudStrings();
        for (Object part : roomOf(y).keySet()) {
            due("shared by two objects", false, room.containsKey(part));
        }
        useAll(x);
        Map<Object, Object> later = roomOf(x);
        due("as many objects as ahead of all calls", room.size(), later.size());
        for (Object part : later.keySet()) {
            due("made by a call", true, room.containsKey(part));
        }
        due("as many fields and elements", partsOf(room), partsOf(later));
        due("the other object is as it was", 0, y.count(0) + y.count(1) + y.count(2) + y.count(3) + y.count(6));
        end();
    }

    /** Some 500 calls, all 29 of them, the dearest ones most of all. */
    private static void useAll(CloudStrings x) {
        for (int v = 0; v < 4; v++) {
            x.village(6 * v, 9, 99);
        }
        for (int c = 0; c < 5; c++) {
            x.cloud(c % 4, 5 * c, 900);
        }
        x.split(0, 100);
        winds(x, "u1,l2,r3,d0,u1,l2,r3,d0,u1,l2,r3,d0");
        x.image();
        for (int i = 0; i < 50; i++) {
            x.sheet(i % 4, i % 3, 25);
            x.item(i % 4, i % 3, 5, i);
            x.film(i % 5, i % 4, i % 3, i % 20);
            x.copy(i % 4, 0, (i + 1) % 4, 3, 9);
            x.held(12, i % 4, i % 3, 0, i % 5 - 1);
            x.tug(i % 4, (i + 1) % 4, 12, i % 2);
            x.fewest(i % 4, 12, i % 7 - 1);
            x.where(i % 6, 24, i % 2);
            x.wet(i % 4, 24);
        }
        x.hold(0, 0, 3);
        due("a call that the object answers", 3, x.holds(0, 0));
        x.set(0, 1, 5);
        x.join(0, 5);
        x.salt(1);
        x.seed(7);
        x.drawn(2);
        x.pass(2);
        x.drop(3);
        due("told, of, fallen, count", true, x.told(0, 0) + x.of(0, 0) + x.fallen(0) + x.count(0) >= 0);
        due("restored", 1, x.restore());
    }

    /** All objects and arrays that one object holds, itself, too. */
    private static Map<Object, Object> roomOf(Object start) throws IllegalAccessException {
        Map<Object, Object> seen = new IdentityHashMap<>();
        List<Object> open = new ArrayList<>();
        open.add(start);
        while (!open.isEmpty()) {
            Object part = open.remove(open.size() - 1);
            if (seen.put(part, part) != null) {
                continue;
            }
            if (part instanceof Object[]) {
                for (Object inside : (Object[]) part) {
                    addTo(open, inside);
                }
            } else if (!part.getClass().isArray()) {
                for (Field f : fieldsOf(part)) {
                    if (!f.getType().isPrimitive()) {
                        addTo(open, f.get(part));
                    }
                }
            }
        }
        return seen;
    }

    private static void addTo(List<Object> open, Object part) {
        if (part != null) {
            open.add(part);
        }
    }

    private static List<Field> fieldsOf(Object part) {
        List<Field> own = new ArrayList<>();
        for (Field f : part.getClass().getDeclaredFields()) {
            if (!Modifier.isStatic(f.getModifiers())) {
                f.setAccessible(true);
                own.add(f);
            }
        }
        return own;
    }

    private static int partsOf(Map<Object, Object> room) {
        int parts = 0;
        for (Object part : room.keySet()) {
            parts += part.getClass().isArray() ? Array.getLength(part) : fieldsOf(part).size();
        }
        return parts;
    }
}
