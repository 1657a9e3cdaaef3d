import java.lang.reflect.Array;
import java.lang.reflect.Field;
import java.lang.reflect.Modifier;
import java.util.Collections;
import java.util.IdentityHashMap;
import java.util.NoSuchElementException;
import java.util.Set;

/** The room that one object takes, and that no call takes more (LANGUAGE.md, rule 12). */
public final class RoomTest {
    private RoomTest() {
    }

    public static void main(String[] args) throws Exception {
        room();
        noRoomByCalls();
        Checks.end("RoomTest");
    }

    /** Objects and arrays that one object of the class holds, and their fields and elements. */
    private static void room() throws Exception {
        Set<Object> seen = Collections.newSetFromMap(new IdentityHashMap<>());
        long elements = roomOf(new BoughtMondays(), seen, 0);
        System.out.println("one object: " + seen.size() + " objects and arrays, " + elements + " fields and elements");
        Checks.holds("few objects", seen.size() <= 80);
        Checks.holds("few elements", elements <= 6000);
    }

    private static long roomOf(Object o, Set<Object> seen, int depth) throws Exception {
        if (o == null || !seen.add(o)) {
            return 0;
        }
        Checks.holds("objects lie no deeper than nine", depth <= 9);
        long many = 0;
        if (o.getClass().isArray()) {
            int n = Array.getLength(o);
            many += n;
            for (int i = 0; i < n && !o.getClass().getComponentType().isPrimitive(); i++) {
                many += roomOf(Array.get(o, i), seen, depth + 1);
            }
            return many;
        }
        for (Field f : o.getClass().getDeclaredFields()) {
            if (!Modifier.isStatic(f.getModifiers())) {
                many++;
                f.setAccessible(true);
                if (!f.getType().isPrimitive()) {
                    many += roomOf(f.get(o), seen, depth + 1);
                }
            }
        }
        return many;
    }

    /** Calls make nothing that stays: the same objects are held behind a run as ahead of it. */
    private static void noRoomByCalls() throws Exception {
        BoughtMondays x = new BoughtMondays();
        Set<Object> before = Collections.newSetFromMap(new IdentityHashMap<>());
        roomOf(x, before, 0);
        Checks.town(x, "person 90 9;person 9 0;duty 3;can 0 0;task 0 1 1;");
        Checks.law(x, "week + least[1, (coins)]");
        Checks.work(x, "buy 0;again 2[week;];");
        Checks.book(x, "0 7;1 6;");
        Checks.work(x, "buy 7;");
        x.image();
        x.year(1, 9, 9, 9, 0);
        x.span(1, 3, 9, 9, 9, 0, 0);
        x.skips(0, 10, 1);
        x.giver(0);
        x.rush();
        x.apart(0, 1, 1);
        x.ahead(9, 0);
        x.due();
        refused(x);
        x.restore();
        x.undo();
        Set<Object> behind = Collections.newSetFromMap(new IdentityHashMap<>());
        roomOf(x, behind, 0);
        Checks.due("objects held", behind.size(), before.size());
        Checks.holds("nothing new is held", before.containsAll(behind));
    }

    private static void refused(BoughtMondays x) {
        try {
            x.person(9, 0);
            Checks.holds("person(9, 0) is refused", false);
        } catch (NoSuchElementException e) {
            Checks.due("refused", x.status(0), 1);
        }
        try {
            x.told(11);
            Checks.holds("told(11) is refused", false);
        } catch (IllegalArgumentException e) {
            Checks.due("refused", x.status(1), 1);
        }
    }
}
