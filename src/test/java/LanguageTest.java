import java.lang.reflect.Array;
import java.lang.reflect.Field;
import java.lang.reflect.Method;
import java.lang.reflect.Modifier;
import java.nio.file.Files;
import java.nio.file.Path;
import java.util.ArrayList;
import java.util.Collections;
import java.util.HashSet;
import java.util.IdentityHashMap;
import java.util.List;
import java.util.Set;

/** What of LANGUAGE.md can be seen from the file and from the class. */
public final class LanguageTest {
    private static final List<String> RULED_OUT = List.of("->", "::", "Exact", "finally", "synchronized", "assert",
            "catch", "try ", "static {", "var ", "stream", "instanceof", "double", "float", "package ", "System.out",
            "nanoTime", "currentTime", "random", "Random", "hashCode", "toString", "equals", "@");

    private LanguageTest() {
    }

    public static void main(String[] args) throws Exception {
        List<String> lines = Files.readAllLines(Path.of(args[0], "src/main/java/BoughtMondays.java"));
        words(lines);
        methodLengths(lines);
        classes();
        room();
        noRoomByCalls();
        Checks.end("LanguageTest");
    }

    private static void words(List<String> lines) {
        for (int i = 0; i < lines.size(); i++) {
            String code = lines.get(i).replaceAll("//.*|/\\*\\*.*", "");
            for (String word : RULED_OUT) {
                Checks.holds("line " + (i + 1) + " is without '" + word + "'", !code.contains(word));
            }
            Checks.holds("line " + (i + 1) + " imports nothing else",
                    !code.startsWith("import") || code.equals("import java.util.NoSuchElementException;"));
            Checks.holds("line " + (i + 1) + " is no longer than 120", lines.get(i).length() <= 120);
        }
    }

    private static void methodLengths(List<String> lines) {
        int from = -1;
        for (int i = 0; i < lines.size(); i++) {
            String line = lines.get(i);
            if (line.matches(" {4}( {4})?[a-zA-Z].*\\).*\\{")) {
                from = i;
            }
            if (from >= 0 && line.matches(" {4}( {4})?\\}")) {
                Checks.holds("the method at line " + (from + 1) + " is short", i - from < 60);
                from = -1;
            }
        }
    }

    private static List<Class<?>> all() {
        List<Class<?>> kinds = new ArrayList<>(List.of(BoughtMondays.class.getDeclaredClasses()));
        kinds.add(BoughtMondays.class);
        return kinds;
    }

    private static void classes() {
        Set<String> face = new HashSet<>();
        for (Method m : BoughtMondays.class.getDeclaredMethods()) {
            if (Modifier.isPublic(m.getModifiers())) {
                face.add(m.getName());
            }
        }
        Checks.holds("at most twelve classes", all().size() <= 12);
        for (Class<?> kind : all()) {
            boolean inside = kind != BoughtMondays.class;
            Checks.holds(kind + " is private and static", !inside
                    || Modifier.isPrivate(kind.getModifiers()) && Modifier.isStatic(kind.getModifiers()));
            int fields = 0;
            for (Field f : kind.getDeclaredFields()) {
                boolean constant = Modifier.isStatic(f.getModifiers());
                fields += constant ? 0 : 1;
                Checks.holds(f + " is final, if static", !constant || Modifier.isFinal(f.getModifiers()));
            }
            Checks.holds(kind + " has at most twenty fields", fields <= 20);
            for (Method m : kind.getDeclaredMethods()) {
                boolean open = Modifier.isPublic(m.getModifiers());
                Checks.holds(m + " has at most seven parameters",
                        m.getParameterCount() <= 7 || m.getName().equals("would"));
                Checks.holds(m + " has a name of its own", open && !inside || !face.contains(m.getName()));
            }
        }
    }

    /** Objects and arrays that one object of the class holds, and their fields and elements. */
    private static void room() throws Exception {
        Set<Object> seen = Collections.newSetFromMap(new IdentityHashMap<>());
        long elements = roomOf(new BoughtMondays(), seen, 0);
        System.out.println("one object: " + seen.size() + " objects and arrays, " + elements + " fields and elements");
        Checks.holds("few objects", seen.size() <= 80);
        Checks.holds("few elements", elements <= 6000);
    }

    private static long roomOf(Object o, Set<Object> seen, int depth) throws Exception {
        if (o == null || depth > 9 || !seen.add(o)) {
            return 0;
        }
        long many = 0;
        if (o.getClass().isArray()) {
            int n = Array.getLength(o);
            many += n;
            for (int i = 0; i < n && !o.getClass().getComponentType().isPrimitive(); i++) {
                many += roomOf(Array.get(o, i), seen, depth + 1);
            }
            return many;
        }
        for (Field f : o.getClass().getDeclaredFields()) {
            if (!Modifier.isStatic(f.getModifiers())) {
                many++;
                f.setAccessible(true);
                if (!f.getType().isPrimitive()) {
                    many += roomOf(f.get(o), seen, depth + 1);
                }
            }
        }
        return many;
    }

    /** Calls make nothing that stays: the same objects are held behind a run as ahead of it. */
    private static void noRoomByCalls() throws Exception {
        BoughtMondays x = new BoughtMondays();
        Set<Object> before = Collections.newSetFromMap(new IdentityHashMap<>());
        roomOf(x, before, 0);
        Checks.town(x, "person 90 9;duty 3;can 0 0;task 0 1 1;");
        Checks.law(x, "week + 1");
        Checks.work(x, "buy 0;week;");
        Checks.book(x, "0 7;");
        x.image();
        x.year(1, 9, 9, 9, 0);
        x.skips(0, 10, 1);
        x.giver(0);
        x.restore();
        x.undo();
        Set<Object> behind = Collections.newSetFromMap(new IdentityHashMap<>());
        roomOf(x, behind, 0);
        Checks.holds("nothing new is kept", before.containsAll(behind));
    }
}
