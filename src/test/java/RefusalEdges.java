import java.lang.reflect.InvocationTargetException;
import java.lang.reflect.Method;
import java.util.ArrayList;
import java.util.Arrays;
import java.util.List;
import java.util.NoSuchElementException;
import java.util.function.Consumer;
import java.util.function.ToLongFunction;

/**
 * What a refused call, a fault or a question leaves as it was: two objects live the same life, one of them is
 * called once more, and then all that can be seen of both is the same, images and works to undo, too.
 */
final class RefusalEdges {
    private static final String TOWN = "person 60 5;person 9 2;person 200 0;duty 10;duty 4;can 0 0;can 1 0;can 1 1;"
            + "can 2 1;task 0 0 7;task 0 4 9;task 2 1 3;";
    static final int PERSONS = 3;
    static final int DUTIES = 2;
    static final int TASKS = 3;

    private RefusalEdges() {
    }

    static void run() {
        Checks.about("calls that answer -1");
        leavesAll("undo() of nothing", x -> undoAll(x), x -> x.undo(), -1);
        leavesAll("restore() of nothing", x -> restoreAll(x), x -> x.restore(), -1);
        leavesAll("image() of a fourth", x -> x.image(), x -> x.image(), -1);
        leavesAll("feed on a full tape", x -> fill(x), x -> x.feed(1, 2, 3, 4, 5), -1);
        leavesAll("fault()", x -> { }, x -> x.fault(), 2);
        for (int what = -1; what <= 3; what++) {
            int asked = what;
            leavesAll("status", x -> { }, x -> x.status(asked), what == 0 ? 2 : what == 1 ? 1 : -1);
            leavesAll("count", x -> { }, x -> x.count(asked), what == 0 ? 2 : what == 1 ? 20 : what == 2 ? 3 : -1);
        }
    }

    private static void undoAll(BoughtMondays x) {
        for (int i = 0; i < 3; i++) {
            x.undo();
        }
    }

    private static void restoreAll(BoughtMondays x) {
        for (int i = 0; i < 2; i++) {
            x.restore();
        }
        x.book(0);
        Checks.work(x, "sell 0;week;");
        Checks.feed(x, "person 7 3;duty 2;  ");
    }

    private static void fill(BoughtMondays x) {
        for (int i = 0; i < 29; i++) {
            x.feed(0x20202020, 0x20202020, 0x20202020, 0x20202020, 0x20202020);
        }
    }

    /** An object in the midst of its life: law, book, works, images, refused steps and calls, a fault, a tape. */
    private static BoughtMondays lively(boolean taped) {
        BoughtMondays x = Checks.made(TOWN);
        Checks.law(x, "week + sold * 3 + coins / 40 + 2");
        Checks.book(x, "0 20;1 19;");
        Checks.work(x, "buy 0;week;");
        x.image();
        Checks.work(x, "buy 2;later 1;sell 1;week;");
        x.image();
        Checks.work(x, "buy 1;buy 2;sell 0;");
        answer(x, y -> y.price(PERSONS));
        answer(x, y -> y.price(-1));
        answer(x, y -> y.told(11));
        Checks.law(x, "1+");
        if (taped) {
            Checks.feed(x, "person 7 3;duty 2;  ");
        }
        return x;
    }

    private static final long THROWN = Long.MIN_VALUE;

    private static long answer(BoughtMondays x, ToLongFunction<BoughtMondays> call) {
        try {
            return call.applyAsLong(x);
        } catch (NoSuchElementException e) {
            return THROWN;
        } catch (IllegalArgumentException e) {
            return THROWN + 1;
        }
    }

    /** The call answers so on a lively object, and nothing stays changed by it. */
    static void leavesAll(String label, Consumer<BoughtMondays> ahead, ToLongFunction<BoughtMondays> call, long due) {
        BoughtMondays asked = lively(true);
        BoughtMondays twin = lively(true);
        ahead.accept(asked);
        ahead.accept(twin);
        Checks.due(label, answer(asked, call), due);
        Checks.due(label + ", status(0)", asked.status(0), twin.status(0) + (due == THROWN ? 1 : 0));
        Checks.due(label + ", status(1)", asked.status(1), twin.status(1) + (due == THROWN + 1 ? 1 : 0));
        same(label, asked, twin, true);
    }

    private static void same(String label, BoughtMondays asked, BoughtMondays twin, boolean taped) {
        List<Long> one = all(asked, taped);
        List<Long> other = all(twin, taped);
        Checks.holds(label + " leaves all as it was: " + one + " and " + other, one.equals(other));
    }

    /** A text with a fault leaves all as it was, but for the tape and the place of the fault. */
    static void faultLeavesAll(String kind, String text) {
        BoughtMondays asked = lively(false);
        BoughtMondays twin = lively(false);
        int bytes = Checks.feed(asked, text);
        int answer = kind.equals("town") ? asked.town(bytes) : kind.equals("law") ? asked.law(bytes)
                : kind.equals("work") ? asked.work(bytes) : asked.book(bytes);
        Checks.holds(kind + " '" + text + "' has a fault", answer == -9);
        Checks.due("status(0)", asked.status(0), twin.status(0));
        Checks.due("status(1)", asked.status(1), twin.status(1));
        same(kind + " '" + text + "'", asked, twin, false);
    }

    /** All that can be seen of an object; it is used up by that. */
    private static List<Long> all(BoughtMondays x, boolean taped) {
        List<Long> seen = new ArrayList<>();
        for (int what = 0; what <= 10; what++) {
            seen.add((long) x.told(what));
        }
        seen.add((long) x.count(0));
        seen.add(taped ? (long) x.count(1) : 0);
        seen.add(taped ? (long) x.fault() : 0);
        for (int p = 0; p < PERSONS; p++) {
            seen.add((long) x.person(p, 1));
            seen.add((long) x.person(p, 4));
            seen.add((long) x.price(p));
            seen.add((long) x.together(p, (p + 1) % PERSONS, 3));
        }
        for (int d = 0; d < DUTIES; d++) {
            seen.add((long) x.duty(d, 0));
        }
        for (int t = 0; t < TASKS; t++) {
            seen.add((long) x.task(t, 0));
            seen.add((long) x.task(t, 2));
        }
        seen.add((long) x.would(7, 3, 0, 400, 0, 0, 0, 0));
        lifeAndWorks(x, seen);
        for (int i = 0; i < 4 && x.restore() >= 0; i++) {
            lifeAndWorks(x, seen);
        }
        if (taped) {
            seen.add((long) x.town(20));
            seen.add((long) x.told(1));
            seen.add((long) x.person(0, 0));
        }
        return seen;
    }

    private static void lifeAndWorks(BoughtMondays x, List<Long> seen) {
        life(x, seen);
        for (int i = 0; i < 16 && x.undo() >= 0; i++) {
            life(x, seen);
        }
    }

    private static void life(BoughtMondays x, List<Long> seen) {
        for (int what : new int[] {3, 5, 6, 10}) {
            seen.add((long) x.told(what));
        }
        seen.add((long) x.count(2));
        for (int p = 0; p < PERSONS; p++) {
            for (int what : new int[] {0, 2, 3, 5, 6}) {
                seen.add((long) x.person(p, what));
            }
        }
        for (int t = 0; t < TASKS; t++) {
            seen.add((long) x.task(t, 1));
        }
    }

    /**
     * The edges of each argument of a method, the others being as in base: the least and the most are taken, those
     * beyond are refused, a kind 'p' (no such person, duty, task) by NoSuchElementException, ahead of all others,
     * a kind 'a' by IllegalArgumentException. Asked or refused, nothing stays changed.
     */
    static void edges(String name, String kinds, int[] base, int[] least, int[] most) {
        for (int i = 0; i < base.length; i++) {
            edge(name, kinds, base, i, least, most);
        }
    }

    /** The edges of one argument. */
    static void edge(String name, String kinds, int[] base, int index, int[] least, int[] most) {
        taken(name, with(base, index, least[index]));
        taken(name, with(base, index, most[index]));
        boolean missing = kinds.charAt(index) == 'p';
        for (int wrong : new int[] {least[index] - 1, most[index] + 1, Integer.MIN_VALUE, Integer.MAX_VALUE}) {
            refused(name, with(base, index, wrong), missing);
            for (int k = 0; missing && k < base.length; k++) {
                if (kinds.charAt(k) == 'a') {
                    refused(name, with(with(base, index, wrong), k, most[k] + 1), true);
                }
            }
        }
    }

    private static int[] with(int[] base, int index, int value) {
        int[] arguments = base.clone();
        arguments[index] = value;
        return arguments;
    }

    private static void taken(String name, int[] arguments) {
        String label = name + Arrays.toString(arguments);
        long first = call(lively(true), name, arguments);
        Checks.holds(label + " is taken", first != THROWN && first != THROWN + 1);
        leavesAll(label, x -> { }, x -> call(x, name, arguments), first);
        leavesAll(label + " asked again", x -> call(x, name, arguments), x -> call(x, name, arguments), first);
    }

    static void refused(String name, int[] arguments, boolean missing) {
        leavesAll(name + Arrays.toString(arguments), x -> { }, x -> call(x, name, arguments),
                missing ? THROWN : THROWN + 1);
    }

    private static long call(BoughtMondays x, String name, int[] arguments) {
        Object[] boxed = new Object[arguments.length];
        for (int i = 0; i < boxed.length; i++) {
            boxed[i] = arguments[i];
        }
        try {
            Object got = method(name).invoke(x, boxed);
            return got instanceof Boolean ? ((Boolean) got ? 1 : 0) : ((Number) got).longValue();
        } catch (InvocationTargetException e) {
            boolean missing = e.getCause().getClass() == NoSuchElementException.class;
            boolean argument = e.getCause().getClass() == IllegalArgumentException.class;
            return missing ? THROWN : argument ? THROWN + 1 : THROWN + 2;
        } catch (IllegalAccessException e) {
            return THROWN + 3;
        }
    }

    private static Method method(String name) {
        return Arrays.stream(BoughtMondays.class.getMethods()).filter(m -> m.getName().equals(name)).findFirst()
                .orElseThrow();
    }
}
