import java.lang.reflect.InvocationTargetException;
import java.lang.reflect.Method;
import java.lang.reflect.Modifier;
import java.util.ArrayList;
import java.util.Arrays;
import java.util.Comparator;
import java.util.List;
import java.util.Map;
import java.util.Random;

/** Runs of drawn calls on the class and on the model, answer by answer. */
public final class ModelTest {
    private static final int RUNS = 1500;
    private static final int CALLS = 300;
    private static final Map<String, int[]> MOST = Map.ofEntries(
            Map.entry("told", new int[] {10}), Map.entry("person", new int[] {5, 6}),
            Map.entry("duty", new int[] {5, 1}), Map.entry("task", new int[] {11, 3}),
            Map.entry("price", new int[] {5}), Map.entry("would", new int[] {300, 5, 999, 999, 30, 6, 12, 5}),
            Map.entry("can", new int[] {5}), Map.entry("ahead", new int[] {99, 2}),
            Map.entry("stay", new int[] {63}), Map.entry("giver", new int[] {5}),
            Map.entry("skips", new int[] {5, 10, 1}), Map.entry("apart", new int[] {5, 5, 20}),
            Map.entry("together", new int[] {5, 5, 20}), Map.entry("met", new int[] {7, 16, 1}),
            Map.entry("open", new int[] {99, 99, 2}), Map.entry("share", new int[] {5, 63, 3000}),
            Map.entry("youngest", new int[] {1}), Map.entry("next", new int[] {5, 1}),
            Map.entry("debt", new int[] {5}), Map.entry("spare", new int[] {5, 99}),
            Map.entry("cheapest", new int[] {1}), Map.entry("crowd", new int[] {1}),
            Map.entry("clear", new int[] {5, 20}), Map.entry("richest", new int[] {1}),
            Map.entry("back", new int[] {5}), Map.entry("loses", new int[] {99}),
            Map.entry("year", new int[] {1000000, 96, 16, 16, 4}),
            Map.entry("span", new int[] {1000000, 20, 96, 16, 16, 2, 11}),
            Map.entry("status", new int[] {2}), Map.entry("count", new int[] {3}));
    private static final List<String> TEXTS = List.of("town", "law", "work", "book");

    private ModelTest() {
    }

    public static void main(String[] args) throws Exception {
        List<Method> face = new ArrayList<>();
        for (Method m : BoughtMondays.class.getDeclaredMethods()) {
            if (Modifier.isPublic(m.getModifiers())) {
                face.add(m);
            }
        }
        face.sort(Comparator.comparing(Method::getName));
        int runs = args.length > 2 ? Integer.parseInt(args[2]) : RUNS;
        int base = args.length > 3 ? Integer.parseInt(args[3]) : 0;
        for (int run = 0; run < runs; run++) {
            new Run(run + base, face).go();
        }
        Checks.end("ModelTest");
    }

    /** One object and its model. */
    private static final class Run {
        private final int number;
        private final Random random;
        private final List<Method> face;
        private final Texts texts;
        private final BoughtMondays subject = new BoughtMondays();
        private final Model model = new Model();
        private final List<String> log = new ArrayList<>();
        private boolean same = true;

        Run(int number, List<Method> face) {
            this.number = number;
            this.random = new Random(number);
            this.face = face;
            this.texts = new Texts(random);
        }

        void go() throws Exception {
            if (random.nextInt(10) > 0) {
                text("town", texts.town());
            }
            while (log.size() < CALLS && same) {
                int kind = random.nextInt(100);
                if (kind < 2) {
                    text("town", texts.town());
                } else if (kind < 6) {
                    text("law", texts.law());
                } else if (kind < 18) {
                    text("work", texts.work(subject.told(0), subject.told(2)));
                } else if (kind < 22) {
                    text("book", texts.book(subject.told(0)));
                } else if (kind < 24) {
                    both(method("undo"));
                } else if (kind < 26) {
                    both(method(random.nextBoolean() ? "image" : "restore"));
                } else {
                    ask(face.get(random.nextInt(face.size())));
                }
            }
        }

        private Method method(String name) {
            return face.stream().filter(m -> m.getName().equals(name)).findFirst().orElseThrow();
        }

        private void text(String name, String text) throws Exception {
            int n = text.length();
            for (int i = 0; i < n; i += 20) {
                Object[] five = new Object[5];
                for (int k = 0; k < 5; k++) {
                    int x = 0;
                    for (int j = 0; j < 4; j++) {
                        int at = i + 4 * k + j;
                        x = x << 8 | (at < n ? text.charAt(at) : random.nextInt(256));
                    }
                    five[k] = x;
                }
                both(method("feed"), five);
            }
            int read = random.nextInt(30) == 0 ? n - random.nextInt(5) : n;
            log.add("text " + name + " '" + text + "'");
            both(method(name), read);
            both(method("fault"));
        }

        private void ask(Method m) throws Exception {
            String name = m.getName();
            Object[] arguments = new Object[m.getParameterCount()];
            if (TEXTS.contains(name) || name.equals("feed")) {
                for (int i = 0; i < arguments.length; i++) {
                    arguments[i] = random.nextInt(4) == 0 ? random.nextInt() : random.nextInt(30) - 2;
                }
            } else if (arguments.length > 0) {
                int[] most = MOST.get(name);
                for (int i = 0; i < most.length; i++) {
                    arguments[i] = argument(name, i, most[i]);
                }
            }
            both(m, arguments);
        }

        private int argument(String name, int index, int most) {
            int kind = random.nextInt(80);
            if (kind == 0) {
                return -1;
            }
            if (kind == 1) {
                return most + 1;
            }
            if (kind == 2) {
                return random.nextInt();
            }
            if (kind < 6) {
                return most;
            }
            if ("apart together".contains(name) && index == 2) {
                return random.nextInt(8);
            }
            if ("year span".contains(name) && most == 96) {
                return 1 + random.nextInt(random.nextInt(4) == 0 ? 96 : 12);
            }
            int there = there(name, index, most);
            return random.nextInt(there + 1);
        }

        /** Persons, duties and tasks that are there are asked for most of the time. */
        private int there(String name, int index, int most) {
            int persons = subject.told(0);
            int duties = subject.told(1);
            int tasks = subject.told(2);
            if (most == 5 && !name.equals("would")) {
                int many = "duty giver".contains(name) ? duties : persons;
                return many > 0 ? many - 1 : most;
            }
            if (most == 63) {
                return (1 << (name.equals("stay") ? duties : persons)) - 1;
            }
            return most == 11 && tasks > 0 ? tasks - 1 : most;
        }

        private void both(Method m, Object... arguments) throws Exception {
            Method other = Model.class.getMethod(m.getName(), m.getParameterTypes());
            Object got = answer(m, subject, arguments);
            Object due = answer(other, model, arguments);
            log.add(m.getName() + Arrays.toString(arguments) + " -> " + got);
            same = got.equals(due);
            if (!same) {
                log.forEach(System.out::println);
            }
            Checks.holds("run " + number + ": " + m.getName() + Arrays.toString(arguments) + " answered " + got
                    + ", due is " + due, same);
        }

        private static Object answer(Method m, Object on, Object... arguments) throws Exception {
            try {
                return m.invoke(on, arguments);
            } catch (InvocationTargetException e) {
                return e.getCause().getClass();
            }
        }
    }

    /** Draws texts, most of them without a fault. */
    private static final class Texts {
        private final Random random;

        Texts(Random random) {
            this.random = random;
        }

        private int upTo(int most) {
            return random.nextInt(most + 1);
        }

        /** A number from 0 to most, now and then beyond. */
        private String number(int most) {
            if (random.nextInt(250) == 0) {
                return random.nextInt(4) == 0 ? "99999999999999999999" : "" + (most + 1);
            }
            return (random.nextInt(40) == 0 ? "00" : "") + (most < 0 ? 0 : upTo(most));
        }

        private String gap() {
            return random.nextInt(12) == 0 ? "  " : "";
        }

        private String spoil(String text, int most) {
            StringBuilder b = new StringBuilder(text);
            if (random.nextInt(8) == 0 && b.length() > 0) {
                int at = random.nextInt(b.length());
                int kind = random.nextInt(3);
                String signs = "abkpst0189;,[]()+-*/% \0\u00ff\u0080W";
                if (kind == 0) {
                    b.deleteCharAt(at);
                } else if (kind == 1) {
                    b.setCharAt(at, signs.charAt(random.nextInt(signs.length())));
                } else {
                    b.insert(at, signs.charAt(random.nextInt(signs.length())));
                }
            }
            if (b.length() > most) {
                b.setLength(most);
            }
            return b.toString();
        }

        String town() {
            int persons = 0;
            int duties = 0;
            int tasks = 0;
            StringBuilder b = new StringBuilder();
            int clauses = random.nextInt(6) == 0 ? 62 : 4 + upTo(30);
            int mondays = random.nextBoolean() ? 60 : 8;
            int coins = random.nextBoolean() ? 500 : 40;
            for (int i = 0; i < clauses; i++) {
                int kind = random.nextInt(100);
                boolean over = random.nextInt(100) == 0;
                if ((kind < 25 || persons == 0) && (persons < 6 || over)) {
                    b.append("person ").append(number(coins)).append(' ').append(number(30));
                    persons++;
                } else if ((kind < 50 || duties == 0) && (duties < 6 || over)) {
                    b.append("duty ").append(1 + upTo(29));
                    duties++;
                } else if (kind < 75 || tasks == 12 && !over) {
                    b.append("can").append(number(persons - 1)).append(' ').append(number(duties - 1));
                } else {
                    b.append("task ").append(number(persons - 1)).append(' ').append(number(mondays));
                    b.append(' ').append(number(60));
                    tasks++;
                }
                b.append(gap()).append(';').append(gap());
            }
            return spoil(b.toString(), 600);
        }

        String law() {
            for (int i = 0; i < 50; i++) {
                String text = sum(random.nextInt(20) == 0 ? 8 : 3);
                if (text.length() <= 150) {
                    return spoil(text, 150);
                }
            }
            return spoil("week", 150);
        }

        private String sum(int depth) {
            StringBuilder b = new StringBuilder(product(depth));
            while (random.nextInt(3) == 0) {
                b.append(gap()).append(random.nextBoolean() ? '+' : '-').append(gap()).append(product(depth));
            }
            return b.toString();
        }

        private String product(int depth) {
            StringBuilder b = new StringBuilder(unit(depth));
            while (random.nextInt(3) == 0) {
                b.append(gap()).append("*/%".charAt(random.nextInt(3))).append(gap()).append(unit(depth));
            }
            return b.toString();
        }

        private String unit(int depth) {
            int kind = random.nextInt(depth > 3 ? 30 : 10);
            if (depth > 0 && kind > 5) {
                if (kind % 2 == 0) {
                    return "(" + sum(depth - 1) + gap() + ")";
                }
                return (random.nextBoolean() ? "least" : "most") + gap() + "[" + sum(depth - 1) + "," + sum(depth - 1)
                        + "]";
            }
            if (kind < 3) {
                return number(random.nextBoolean() ? 9 : 999);
            }
            String[] names = {"week", "sold", "skipped", "coins", "wage", "needed", "tasks", "person"};
            return names[random.nextInt(names.length)];
        }

        String work(int persons, int tasks) {
            String text = "";
            for (int i = 0; i < 20; i++) {
                String more = text + steps(1, persons, tasks, 0);
                if (more.length() > 150 || random.nextInt(8) == 0) {
                    break;
                }
                text = more;
            }
            return spoil(text, 150);
        }

        private String steps(int many, int persons, int tasks, int depth) {
            StringBuilder b = new StringBuilder();
            for (int i = 0; i < many; i++) {
                int kind = random.nextInt(100);
                if (kind < 35 && persons > 0) {
                    b.append("buy ").append(number(persons - 1));
                } else if (kind < 45 && persons > 0) {
                    b.append("sell ").append(number(persons - 1));
                } else if (kind < 60 && tasks > 0) {
                    b.append("later").append(number(tasks - 1));
                } else if (kind < 75 && depth < 8) {
                    b.append("again ").append(number(random.nextInt(4) == 0 ? 60 : 4)).append(gap()).append('[');
                    b.append(steps(upTo(3), persons, tasks, depth + 1)).append(gap()).append(']');
                } else {
                    b.append("week");
                }
                b.append(gap()).append(';').append(gap());
            }
            return b.toString();
        }

        String book(int persons) {
            StringBuilder b = new StringBuilder();
            int n = upTo(7);
            for (int p = 0; p < persons; p++) {
                if (random.nextInt(5) > 0) {
                    int days = random.nextInt(5) == 0 ? upTo(140) : Math.min(140, 6 * n + upTo(n + 1));
                    int who = random.nextInt(100) == 0 ? upTo(5) : p;
                    b.append(gap()).append(who).append(' ').append(days).append(gap()).append(';');
                }
            }
            return spoil(b.toString(), 60);
        }
    }
}
