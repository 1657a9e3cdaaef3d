import java.lang.reflect.InvocationTargetException;
import java.lang.reflect.Method;
import java.lang.reflect.Modifier;
import java.nio.file.Files;
import java.nio.file.Path;
import java.util.ArrayList;
import java.util.List;
import java.util.regex.Matcher;
import java.util.regex.Pattern;

/** README.md tells how to use the class: its calls answer what it says, and it names every call. */
public final class ReadmeTest {
    /** A call on x, and behind it the answer or what is thrown. */
    private static final Pattern CALL = Pattern.compile("x\\.(\\w+)\\((.*)\\); +// (?:throws (\\w+)|(-?\\d+)).*");
    private static final Pattern FED = Pattern.compile("feed\\(x, \"(.*)\"\\)");
    private static final int CALLS = 25;

    private ReadmeTest() {
    }

    public static void main(String[] args) throws Exception {
        List<String> lines = Files.readAllLines(Path.of(args[0], "README.md"));
        calls(lines);
        names(String.join("\n", lines));
        Checks.end("ReadmeTest");
    }

    private static void calls(List<String> lines) throws Exception {
        BoughtMondays x = new BoughtMondays();
        int made = 0;
        for (String line : lines) {
            Matcher call = CALL.matcher(line);
            if (call.matches()) {
                made++;
                String thrown = call.group(3);
                String due = thrown == null ? call.group(4) : thrown;
                String got = answer(x, call.group(1), call.group(2));
                Checks.holds(line.strip() + ": answered " + got, got.equals(due));
            }
        }
        Checks.due("calls in README.md", made, CALLS);
    }

    private static String answer(BoughtMondays x, String name, String told) throws Exception {
        Object[] arguments = arguments(x, told);
        try {
            return methodNamed(name).invoke(x, arguments).toString();
        } catch (InvocationTargetException e) {
            return e.getCause().getClass().getSimpleName();
        }
    }

    private static Object[] arguments(BoughtMondays x, String told) {
        Matcher fed = FED.matcher(told);
        if (fed.matches()) {
            return new Object[] {Checks.feed(x, fed.group(1))};
        }
        List<Object> numbers = new ArrayList<>();
        for (String number : told.split(", ")) {
            if (!number.isEmpty()) {
                numbers.add(Integer.parseInt(number));
            }
        }
        return numbers.toArray();
    }

    private static Method methodNamed(String name) {
        for (Method method : BoughtMondays.class.getDeclaredMethods()) {
            if (method.getName().equals(name) && Modifier.isPublic(method.getModifiers())) {
                return method;
            }
        }
        throw new IllegalArgumentException("README.md calls " + name + ", which is not there");
    }

    private static void names(String text) {
        int named = 0;
        for (Method method : BoughtMondays.class.getDeclaredMethods()) {
            if (Modifier.isPublic(method.getModifiers())) {
                named++;
                Checks.holds("README.md names " + method.getName(), text.contains("`" + method.getName() + "`"));
            }
        }
        Checks.due("calls of the class", named, 45);
    }
}
