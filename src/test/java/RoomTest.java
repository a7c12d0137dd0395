import java.lang.reflect.Array;
import java.lang.reflect.Field;
import java.lang.reflect.Modifier;
import java.util.ArrayDeque;
import java.util.Collections;
import java.util.Deque;
import java.util.IdentityHashMap;
import java.util.Set;

/**
 * All calls of one run live in one room of 600,000 objects and 7.3 million fields and elements. What
 * a desk has in hand is all that it ever made: LanguageTest sees to it that only constructors and
 * call() make anything, and no CALL is ever given up.
 */
public final class RoomTest {
    private static final int OBJECTS = 600_000;
    private static final int PLACES = 7_300_000;
    /** So many desks must find room beside each other. */
    private static final int DESKS = 1000;

    private long objects;
    private long places;

    public static void main(String[] args) throws IllegalAccessException {
        Due d = new Due();
        RoomTest fresh = new RoomTest();
        fresh.count(new DutyDesk());
        RoomTest full = new RoomTest();
        full.count(Desks.fullOfCalls());
        d.due("objects of 150 CALLS", full.objects - fresh.objects, 150);
        d.holds(fresh.objects + " objects in a new desk", fresh.objects * DESKS <= OBJECTS);
        d.holds(fresh.places + " places in a new desk", fresh.places * DESKS <= PLACES);
        d.holds(full.objects + " objects in a full desk", full.objects * DESKS <= OBJECTS);
        d.holds(full.places + " places in a full desk", full.places * DESKS <= PLACES);
        d.finish();
    }

    private void count(Object from) throws IllegalAccessException {
        Set<Object> seen = Collections.newSetFromMap(new IdentityHashMap<>());
        Deque<Object> open = new ArrayDeque<>();
        seen.add(from);
        open.add(from);
        while (!open.isEmpty()) {
            Object one = open.remove();
            objects++;
            for (Object part : one.getClass().isArray() ? elements(one) : fields(one)) {
                if (part != null && isObject(part) && seen.add(part)) {
                    open.add(part);
                }
            }
        }
    }

    private static boolean isObject(Object part) {
        return part.getClass().isArray() || part.getClass().getName().startsWith("DutyDesk");
    }

    private Object[] elements(Object row) {
        Object[] all = new Object[Array.getLength(row)];
        for (int n = 0; n < all.length; n++) {
            all[n] = Array.get(row, n);
        }
        places += all.length;
        return all;
    }

    private Object[] fields(Object one) throws IllegalAccessException {
        Field[] declared = one.getClass().getDeclaredFields();
        Object[] all = new Object[declared.length];
        for (int n = 0; n < all.length; n++) {
            if (!Modifier.isStatic(declared[n].getModifiers())) {
                declared[n].setAccessible(true);
                all[n] = declared[n].get(one);
                places++;
            }
        }
        return all;
    }
}
