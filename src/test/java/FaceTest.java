import java.lang.reflect.Constructor;
import java.lang.reflect.Field;
import java.lang.reflect.Member;
import java.lang.reflect.Method;
import java.lang.reflect.Modifier;
import java.nio.file.Files;
import java.nio.file.Path;
import java.util.ArrayList;
import java.util.List;
import java.util.TreeSet;

/** The public face is the document's and nothing more. */
public final class FaceTest {
    private FaceTest() {
    }

    public static void main(String[] args) throws Exception {
        TreeSet<String> told = new TreeSet<>();
        TreeSet<String> there = new TreeSet<>();
        for (String line : faceLines(Path.of(args[1], "DOC.md"))) {
            told.add(line);
        }
        Class<?> face = BoughtMondays.class;
        Checks.due("modifiers of the class", face.getModifiers(), Modifier.PUBLIC | Modifier.FINAL);
        for (Method m : face.getDeclaredMethods()) {
            if (isOpen(m)) {
                there.add(shape(m));
            }
        }
        for (Constructor<?> c : face.getDeclaredConstructors()) {
            if (isOpen(c)) {
                there.add("public BoughtMondays" + types(c.getParameterTypes()));
            }
        }
        for (Field f : face.getDeclaredFields()) {
            if (isOpen(f)) {
                there.add(Modifier.toString(f.getModifiers()) + " " + f.getType() + " " + f.getName());
            } else {
                Checks.holds(f + " is no static state",
                        !Modifier.isStatic(f.getModifiers()) || Modifier.isFinal(f.getModifiers()));
            }
        }
        Checks.due("face members", there.size(), 47);
        for (String line : told) {
            Checks.holds("there is " + line, there.contains(line));
        }
        for (String line : there) {
            Checks.holds("the document tells " + line, told.contains(line));
        }
        Checks.due("NONE", BoughtMondays.NONE, -1);
        Checks.end("FaceTest");
    }

    private static boolean isOpen(Member m) {
        return !m.isSynthetic() && !Modifier.isPrivate(m.getModifiers());
    }

    private static String shape(Method m) {
        return Modifier.toString(m.getModifiers()) + " " + m.getReturnType() + " " + m.getName()
                + types(m.getParameterTypes()) + thrown(m.getExceptionTypes());
    }

    private static String types(Class<?>[] kinds) {
        List<String> names = new ArrayList<>();
        for (Class<?> kind : kinds) {
            names.add(kind.getSimpleName());
        }
        return "(" + String.join(", ", names) + ")";
    }

    private static String thrown(Class<?>[] kinds) {
        List<String> names = new ArrayList<>();
        for (Class<?> kind : kinds) {
            names.add(kind.getSimpleName());
        }
        return names.isEmpty() ? "" : " throws " + String.join(", ", names);
    }

    private static List<String> faceLines(Path doc) throws Exception {
        List<String> lines = new ArrayList<>();
        boolean inside = false;
        for (String line : Files.readAllLines(doc)) {
            if (line.startsWith("## ")) {
                inside = line.equals("## The public face");
            }
            String told = line.strip();
            if (inside && told.startsWith("public ") && told.endsWith(";")) {
                lines.add(told.replaceAll(" = .*|;$", "").replaceAll("(int|long|boolean) \\w+([,)])", "$1$2"));
            }
        }
        return lines;
    }
}
