import java.math.BigInteger;
import java.util.ArrayList;
import java.util.List;
import java.util.NoSuchElementException;
import java.util.function.Consumer;

/**
 * The document once more, told as slowly and plainly as it reads, to be compared with the class:
 * texts as token lists, laws worked out anew at each price, all ways tried one by one.
 */
public final class Model {
    /** A FAULT. */
    private static final class Fault extends RuntimeException {
        private static final long serialVersionUID = 1;
        final int kind;
        final int place;

        Fault(int kind, int place) {
            this.kind = kind;
            this.place = place;
        }
    }

    private record Token(String text, int place) {
        boolean isNumber() {
            return !text.isEmpty() && Character.isDigit(text.charAt(0));
        }
    }

    private static final class Tokens {
        final List<Token> all = new ArrayList<>();
        int index = 0;

        Tokens(String text) {
            int i = 0;
            while (i < text.length()) {
                int from = i;
                char c = text.charAt(i++);
                if (c == ' ') {
                    continue;
                }
                String kin = c >= '0' && c <= '9' ? "0123456789" : "abcdefghijklmnopqrstuvwxyz";
                if (kin.indexOf(c) >= 0) {
                    while (i < text.length() && kin.indexOf(text.charAt(i)) >= 0) {
                        i++;
                    }
                }
                all.add(new Token(text.substring(from, i), from));
            }
            all.add(new Token("", text.length()));
        }

        Token peek() {
            return all.get(index);
        }

        boolean ended() {
            return peek().text.isEmpty();
        }

        Token pop() {
            Token t = peek();
            if (!ended()) {
                index++;
            }
            return t;
        }

        void sign(String s) {
            Token t = pop();
            if (!t.text.equals(s)) {
                throw new Fault(1, t.place);
            }
        }

        int number(int least, int most) {
            Token t = pop();
            if (!t.isNumber()) {
                throw new Fault(1, t.place);
            }
            BigInteger value = new BigInteger(t.text);
            if (value.compareTo(BigInteger.valueOf(least)) < 0 || value.compareTo(BigInteger.valueOf(most)) > 0) {
                throw new Fault(2, t.place);
            }
            return value.intValue();
        }
    }

    private static final class Person {
        int coins;
        int wage;
        int days;
        int skipped;
        int paid = -1;
        int fines;
    }

    private static final class Task {
        int owner;
        int monday;
        int fine;
        boolean done;
    }

    private static final class State {
        int week;
        int lost;
        List<Person> persons = new ArrayList<>();
        List<Task> tasks = new ArrayList<>();

        State copy() {
            State s = new State();
            s.week = week;
            s.lost = lost;
            for (Person p : persons) {
                Person c = new Person();
                c.coins = p.coins;
                c.wage = p.wage;
                c.days = p.days;
                c.skipped = p.skipped;
                c.paid = p.paid;
                c.fines = p.fines;
                s.persons.add(c);
            }
            for (Task t : tasks) {
                Task c = new Task();
                c.owner = t.owner;
                c.monday = t.monday;
                c.fine = t.fine;
                c.done = t.done;
                s.tasks.add(c);
            }
            return s;
        }
    }

    private static final class Town {
        State start = new State();
        List<Integer> worths = new ArrayList<>();
        boolean[][] can = new boolean[6][6];
    }

    private record Image(State state, List<State> works) {
    }

    private record Step(String word, int number, List<Step> body) {
    }

    private String tape = "";
    private Town town = new Town();
    private State now = new State();
    private String law = "5 + sold * 3 + skipped";
    private int[] book = {-1, -1, -1, -1, -1, -1};
    private int faultPlace = -1;
    private int refusedSteps = 0;
    private List<State> works = new ArrayList<>();
    private List<Image> images = new ArrayList<>();
    private int missingCount = 0;
    private int argumentCount = 0;

    // ---- refusals ----

    private void person(int p) {
        has(p >= 0 && p < now.persons.size());
    }

    private void has(boolean there) {
        if (!there) {
            missingCount++;
            throw new NoSuchElementException();
        }
    }

    private void fits(boolean fit) {
        if (!fit) {
            argumentCount++;
            throw new IllegalArgumentException();
        }
    }

    private void in(int value, int least, int most) {
        fits(value >= least && value <= most);
    }

    // ---- texts ----

    public int feed(int a, int b, int c, int d, int e) {
        if (tape.length() > 580) {
            return -1;
        }
        StringBuilder more = new StringBuilder(tape);
        for (int x : new int[] {a, b, c, d, e}) {
            more.append((char) (x >>> 24)).append((char) (x >>> 16 & 255));
            more.append((char) (x >>> 8 & 255)).append((char) (x & 255));
        }
        tape = more.toString();
        return tape.length();
    }

    private int read(int n, int most, Consumer<Tokens> reader) {
        fits(n >= 0 && n <= tape.length() && n <= most);
        Tokens tokens = new Tokens(tape.substring(0, n));
        tape = "";
        faultPlace = -1;
        try {
            reader.accept(tokens);
        } catch (Fault f) {
            faultPlace = f.place;
            return f.kind - 10;
        }
        return 0;
    }

    public int town(int n) {
        Town fresh = new Town();
        int answer = read(n, 600, tokens -> {
            int clauses = 0;
            while (!tokens.ended()) {
                clause(tokens, fresh, ++clauses > 60);
                tokens.sign(";");
            }
        });
        if (answer < 0) {
            return answer;
        }
        town = fresh;
        now = fresh.start.copy();
        law = "5 + sold * 3 + skipped";
        book = new int[] {-1, -1, -1, -1, -1, -1};
        refusedSteps = 0;
        works = new ArrayList<>();
        images = new ArrayList<>();
        return now.persons.size();
    }

    private static void clause(Tokens tokens, Town fresh, boolean tooMany) {
        Token word = tokens.pop();
        List<Person> persons = fresh.start.persons;
        List<Task> tasks = fresh.start.tasks;
        boolean full = tooMany;
        if (word.text.equals("person")) {
            full |= persons.size() == 6;
        } else if (word.text.equals("duty")) {
            full |= fresh.worths.size() == 6;
        } else if (word.text.equals("task")) {
            full |= tasks.size() == 12;
        } else if (!word.text.equals("can")) {
            throw new Fault(1, word.place);
        }
        if (full) {
            throw new Fault(3, word.place);
        }
        if (word.text.equals("person")) {
            Person p = new Person();
            p.coins = tokens.number(0, 500);
            p.wage = tokens.number(0, 30);
            persons.add(p);
        } else if (word.text.equals("duty")) {
            fresh.worths.add(tokens.number(1, 30));
        } else if (word.text.equals("can")) {
            int p = tokens.number(0, persons.size() - 1);
            fresh.can[p][tokens.number(0, fresh.worths.size() - 1)] = true;
        } else {
            Task t = new Task();
            t.owner = tokens.number(0, persons.size() - 1);
            t.monday = tokens.number(0, 60);
            t.fine = tokens.number(0, 60);
            tasks.add(t);
        }
    }

    public int law(int n) {
        String text = n >= 0 && n <= tape.length() ? tape.substring(0, n) : "";
        int answer = read(n, 150, tokens -> {
            sum(tokens, 0, new int[8]);
            if (!tokens.ended()) {
                throw new Fault(1, tokens.peek().place);
            }
        });
        if (answer == 0) {
            law = text;
            return 1;
        }
        return answer;
    }

    private static int sum(Tokens tokens, int open, int[] env) {
        int value = product(tokens, open, env);
        while (tokens.peek().text.equals("+") || tokens.peek().text.equals("-")) {
            boolean plus = tokens.pop().text.equals("+");
            int other = product(tokens, open, env);
            value = plus ? value + other : value - other;
        }
        return value;
    }

    private static int product(Tokens tokens, int open, int[] env) {
        int value = unit(tokens, open, env);
        while (List.of("*", "/", "%").contains(tokens.peek().text)) {
            String sign = tokens.pop().text;
            int other = unit(tokens, open, env);
            if (sign.equals("*")) {
                value = value * other;
            } else if (other == 0) {
                value = 0;
            } else {
                value = (int) (sign.equals("/") ? (long) value / other : (long) value % other);
            }
        }
        return value;
    }

    private static int unit(Tokens tokens, int open, int[] env) {
        Token t = tokens.peek();
        if (t.isNumber()) {
            return tokens.number(0, 999);
        }
        tokens.pop();
        int name = List.of("week", "sold", "skipped", "coins", "wage", "needed", "tasks", "person").indexOf(t.text);
        if (name >= 0) {
            return env[name];
        }
        if (!List.of("(", "least", "most").contains(t.text)) {
            throw new Fault(1, t.place);
        }
        if (open == 6) {
            throw new Fault(3, t.place);
        }
        if (t.text.equals("(")) {
            int value = sum(tokens, open + 1, env);
            tokens.sign(")");
            return value;
        }
        tokens.sign("[");
        int one = sum(tokens, open + 1, env);
        tokens.sign(",");
        int other = sum(tokens, open + 1, env);
        tokens.sign("]");
        return t.text.equals("least") == one < other ? one : other;
    }

    private int lawPrice(int... env) {
        return Math.max(0, Math.min(99, sum(new Tokens(law), 0, env)));
    }

    public int work(int n) {
        fits(n >= 0 && n <= tape.length() && n <= 150);
        if (works.size() == 16) {
            tape = "";
            faultPlace = -1;
            return -20;
        }
        List<Step> steps = new ArrayList<>();
        int answer = read(n, 150, tokens -> {
            while (!tokens.ended()) {
                steps.add(step(tokens, 0));
                tokens.sign(";");
            }
        });
        if (answer < 0) {
            return answer;
        }
        works.add(now.copy());
        int[] tally = new int[3];
        run(steps, tally);
        refusedSteps = tally[2];
        return tally[1];
    }

    private Step step(Tokens tokens, int open) {
        Token word = tokens.pop();
        switch (word.text) {
            case "buy":
            case "sell":
                return new Step(word.text, tokens.number(0, now.persons.size() - 1), null);
            case "later":
                return new Step(word.text, tokens.number(0, now.tasks.size() - 1), null);
            case "week":
                return new Step(word.text, 0, null);
            case "again":
                if (open == 6) {
                    throw new Fault(3, word.place);
                }
                int n = tokens.number(0, 60);
                List<Step> body = new ArrayList<>();
                tokens.sign("[");
                while (!tokens.peek().text.equals("]")) {
                    body.add(step(tokens, open + 1));
                    tokens.sign(";");
                }
                tokens.sign("]");
                return new Step(word.text, n, body);
            default:
                throw new Fault(1, word.place);
        }
    }

    private void run(List<Step> steps, int[] tally) {
        for (Step s : steps) {
            if (tally[0] == 200) {
                return;
            }
            tally[0]++;
            if (s.body != null) {
                for (int i = 0; i < s.number; i++) {
                    run(s.body, tally);
                }
                continue;
            }
            tally[did(s) ? 1 : 2]++;
        }
    }

    private boolean did(Step s) {
        if (s.word.equals("buy")) {
            return buy(now, s.number);
        }
        if (s.word.equals("sell")) {
            return sell(now, s.number);
        }
        if (s.word.equals("later")) {
            Task t = now.tasks.get(s.number);
            if (t.done || t.monday < now.week || t.monday == 60) {
                return false;
            }
            t.monday++;
            return true;
        }
        if (now.week == 300) {
            return false;
        }
        week(now);
        return true;
    }

    private int priceOf(State s, int p) {
        int sold = 0;
        int needed = 0;
        int tasks = 0;
        for (int o = 0; o < s.persons.size(); o++) {
            sold += o != p && s.persons.get(o).paid != -1 ? 1 : 0;
        }
        for (int d = 0; d < town.worths.size(); d++) {
            boolean byOther = false;
            for (int o = 0; o < s.persons.size(); o++) {
                byOther |= o != p && s.persons.get(o).paid == -1 && town.can[o][d];
            }
            needed += town.can[p][d] && !byOther ? 1 : 0;
        }
        for (Task t : s.tasks) {
            tasks += t.owner == p && t.monday == s.week && !t.done ? 1 : 0;
        }
        Person q = s.persons.get(p);
        return lawPrice(s.week, sold, q.skipped, q.coins, q.wage, needed, tasks, p);
    }

    private boolean buy(State s, int p) {
        Person q = s.persons.get(p);
        int price = priceOf(s, p);
        if (q.paid != -1 || q.coins < price) {
            return false;
        }
        q.coins -= price;
        q.paid = price;
        return true;
    }

    private static boolean sell(State s, int p) {
        Person q = s.persons.get(p);
        if (q.paid == -1) {
            return false;
        }
        q.coins += q.paid / 2;
        q.paid = -1;
        return true;
    }

    private int week(State s) {
        int paidFines = 0;
        for (int d = 0; d < town.worths.size(); d++) {
            boolean kept = false;
            for (int p = 0; p < s.persons.size(); p++) {
                kept |= s.persons.get(p).paid == -1 && town.can[p][d];
            }
            s.lost += kept ? 0 : town.worths.get(d);
        }
        for (int p = 0; p < s.persons.size(); p++) {
            Person q = s.persons.get(p);
            for (Task t : s.tasks) {
                if (t.owner == p && t.monday == s.week) {
                    if (q.paid == -1) {
                        t.done = true;
                    } else {
                        int pays = Math.min(q.coins, t.fine);
                        q.coins -= pays;
                        q.fines += pays;
                        paidFines += pays;
                    }
                }
            }
            q.days += q.paid == -1 ? 7 : 6;
            q.skipped += q.paid == -1 ? 0 : 1;
            q.coins = q.paid == -1 ? Math.min(999, q.coins + q.wage) : q.coins;
            q.paid = -1;
        }
        s.week++;
        return paidFines;
    }

    public int book(int n) {
        int[] fresh = {-1, -1, -1, -1, -1, -1};
        int answer = read(n, 60, tokens -> {
            while (!tokens.ended()) {
                int place = tokens.peek().place;
                int p = tokens.number(0, now.persons.size() - 1);
                if (fresh[p] != -1) {
                    throw new Fault(2, place);
                }
                fresh[p] = tokens.number(0, 140);
                tokens.sign(";");
            }
        });
        if (answer < 0) {
            return answer;
        }
        book = fresh;
        return told(9);
    }

    public int fault() {
        return faultPlace;
    }

    public int undo() {
        if (works.isEmpty()) {
            return -1;
        }
        now = works.remove(works.size() - 1);
        refusedSteps = 0;
        return works.size();
    }

    // ---- told ----

    private static int doneBits(State s) {
        int bits = 0;
        for (int t = 0; t < s.tasks.size(); t++) {
            bits |= s.tasks.get(t).done ? 1 << t : 0;
        }
        return bits;
    }

    private static int coinsOfAll(State s) {
        return s.persons.stream().mapToInt(p -> p.coins).sum();
    }

    private static int daysOfAll(State s) {
        return s.persons.stream().mapToInt(p -> p.days).sum();
    }

    private static int boughtBits(State s) {
        int bits = 0;
        for (int p = 0; p < s.persons.size(); p++) {
            bits |= s.persons.get(p).paid != -1 ? 1 << p : 0;
        }
        return bits;
    }

    public int told(int what) {
        in(what, 0, 10);
        int lines = 0;
        for (int days : book) {
            lines += days == -1 ? 0 : 1;
        }
        int[] all = {now.persons.size(), town.worths.size(), now.tasks.size(), now.week, boughtBits(now),
            doneBits(now), now.lost, coinsOfAll(now), daysOfAll(now), lines, refusedSteps};
        return all[what];
    }

    public int person(int person, int what) {
        person(person);
        in(what, 0, 6);
        Person p = now.persons.get(person);
        int skills = 0;
        for (int d = 0; d < 6; d++) {
            skills |= town.can[person][d] ? 1 << d : 0;
        }
        int[] all = {p.coins, p.wage, p.days, p.skipped, skills, p.paid, p.fines};
        return all[what];
    }

    public int duty(int duty, int what) {
        has(duty >= 0 && duty < town.worths.size());
        in(what, 0, 1);
        int able = 0;
        for (int p = 0; p < 6; p++) {
            able |= town.can[p][duty] ? 1 << p : 0;
        }
        return what == 0 ? town.worths.get(duty) : able;
    }

    public int task(int task, int what) {
        has(task >= 0 && task < now.tasks.size());
        in(what, 0, 3);
        Task t = now.tasks.get(task);
        int[] all = {t.owner, t.monday, t.fine, t.done ? 1 : 0};
        return all[what];
    }

    public int price(int person) {
        person(person);
        return priceOf(now, person);
    }

    public int would(int week, int sold, int skipped, int coins, int wage, int needed, int tasks, int person) {
        int[] most = {300, 5, 999, 999, 30, 6, 12, 5};
        int[] env = {week, sold, skipped, coins, wage, needed, tasks, person};
        boolean fit = true;
        for (int i = 0; i < 8; i++) {
            fit &= env[i] >= 0 && env[i] <= most[i];
        }
        fits(fit);
        return lawPrice(env);
    }

    public boolean can(int person) {
        person(person);
        return buy(now.copy(), person);
    }

    private State later(int weeks) {
        State s = now.copy();
        for (int i = 0; i < weeks; i++) {
            week(s);
        }
        return s;
    }

    public int ahead(int n, int what) {
        fits(n >= 0 && n <= 99 && what >= 0 && what <= 2);
        State s = later(n);
        return what == 0 ? coinsOfAll(s) : what == 1 ? daysOfAll(s) : doneBits(s);
    }

    public int left() {
        int bits = 0;
        for (int d = 0; d < town.worths.size(); d++) {
            if ((duty(d, 1) & ~boughtBits(now)) == 0) {
                bits |= 1 << d;
            }
        }
        return bits;
    }

    public int stay(int duties) {
        fits(duties >= 0 && duties < 1 << town.worths.size());
        for (int many = 0; many <= now.persons.size(); many++) {
            for (int set = 0; set < 1 << now.persons.size(); set++) {
                boolean all = Integer.bitCount(set) == many;
                for (int d = 0; d < town.worths.size(); d++) {
                    all &= (duties >> d & 1) == 0 || (duty(d, 1) & set) != 0;
                }
                if (all) {
                    return set;
                }
            }
        }
        return -1;
    }

    /** The best way as a row: its worth, then the person of each duty. */
    private int[] best() {
        int[] found = new int[1 + town.worths.size()];
        found[0] = -1;
        giveFrom(0, new int[town.worths.size()], 0, boughtBits(now), found);
        return found;
    }

    private void giveFrom(int d, int[] way, int worth, int used, int[] found) {
        if (d == way.length) {
            if (worth > found[0]) {
                found[0] = worth;
                System.arraycopy(way, 0, found, 1, d);
            }
            return;
        }
        for (int p = 0; p < now.persons.size(); p++) {
            if ((used >> p & 1) == 0 && town.can[p][d]) {
                way[d] = p;
                giveFrom(d + 1, way, worth + town.worths.get(d), used | 1 << p, found);
            }
        }
        way[d] = -1;
        giveFrom(d + 1, way, worth, used, found);
    }

    public int given() {
        return best()[0];
    }

    public int giver(int duty) {
        has(duty >= 0 && duty < town.worths.size());
        return best()[1 + duty];
    }

    public int skips(int person, int n, int what) {
        person(person);
        fits(n >= 0 && n <= 10 && what >= 0 && what <= 1);
        int best = -1;
        for (int set = 0; set < 1 << n; set++) {
            if (Integer.bitCount(set) > (best == -1 ? -1 : Integer.bitCount(best)) && canSkip(person, n, set)) {
                best = set;
            }
        }
        return what == 0 ? Integer.bitCount(best) : best;
    }

    private boolean canSkip(int person, int n, int set) {
        State s = now.copy();
        for (Person p : s.persons) {
            p.paid = -1;
        }
        for (int i = 0; i < n; i++) {
            if ((set >> i & 1) != 0) {
                for (Task t : now.tasks) {
                    if (t.owner == person && !t.done && t.monday == s.week) {
                        return false;
                    }
                }
                if (!buy(s, person)) {
                    return false;
                }
            }
            week(s);
        }
        return true;
    }

    /** Ways to have had Mondays so that one lived so many days, by brute force. */
    private static List<Integer> ways(int n, int days) {
        List<Integer> sets = new ArrayList<>();
        for (int set = 0; set < 1 << n; set++) {
            if (6 * n + Integer.bitCount(set) == days) {
                sets.add(set);
            }
        }
        return sets;
    }

    private void two(int person, int other, int n) {
        person(person);
        person(other);
        fits(person != other && n >= 0 && n <= 20);
    }

    private static BigInteger factorial(int n) {
        BigInteger f = BigInteger.ONE;
        for (int i = 2; i <= n; i++) {
            f = f.multiply(BigInteger.valueOf(i));
        }
        return f;
    }

    public int apart(int person, int other, int n) {
        two(person, other, n);
        if (book[person] == -1 || book[other] == -1) {
            return -1;
        }
        if (n <= 6) {
            int many = 0;
            for (int one : ways(n, book[person])) {
                for (int two : ways(n, book[other])) {
                    many += (one & two) == 0 ? 1 : 0;
                }
            }
            return many;
        }
        int a = book[person] - 6 * n;
        int b = book[other] - 6 * n;
        if (a < 0 || b < 0 || a + b > n) {
            return 0;
        }
        return factorial(n).divide(factorial(a)).divide(factorial(b)).divide(factorial(n - a - b)).intValueExact();
    }

    public int together(int person, int other, int n) {
        two(person, other, n);
        if (book[person] == -1 || book[other] == -1) {
            return -1;
        }
        if (n <= 6) {
            int least = -1;
            for (int one : ways(n, book[person])) {
                for (int two : ways(n, book[other])) {
                    int both = Integer.bitCount(one & two);
                    least = least == -1 || both < least ? both : least;
                }
            }
            return least;
        }
        int a = book[person] - 6 * n;
        int b = book[other] - 6 * n;
        if (a < 0 || b < 0 || a > n || b > n) {
            return -1;
        }
        return a + b > n ? a + b - n : 0;
    }

    public long met(int n, int q, int part) {
        fits(n >= 0 && n <= 7 && q >= 0 && q <= 16 && part >= 0 && part <= 1);
        BigInteger below = BigInteger.valueOf(256).pow(n);
        BigInteger above = below.subtract(BigInteger.valueOf(256 - q * q).pow(n));
        BigInteger common = above.gcd(below);
        return (part == 0 ? above : below).divide(common).longValueExact();
    }

    public int open(int v, int w, int what) {
        fits(v >= 0 && v <= 99 && w >= 0 && w <= 99 && what >= 0 && what <= 2);
        // both are open: to shut would bring -1; both are shut: to open would bring w; one alone: the other would open
        int many = w == 0 ? 2 : 1;
        return what == 0 ? many : what == 1 ? 0 : 2 * v;
    }

    public int share(int person, int persons, int n) {
        person(person);
        fits(persons >= 0 && persons < 1 << now.persons.size() && n >= 0 && n <= 9999);
        int bound = 0;
        while (bound < 10000 && givenBy(bound + 1, persons) <= n) {
            bound++;
        }
        return (persons >> person & 1) == 0 ? 0 : Math.min(bound, now.persons.get(person).days);
    }

    private int givenBy(int bound, int persons) {
        int sum = 0;
        for (int p = 0; p < now.persons.size(); p++) {
            sum += (persons >> p & 1) == 0 ? 0 : Math.min(bound, now.persons.get(p).days);
        }
        return sum;
    }

    /** The first of the greatest values, or how great it is. */
    private static int first(int[] values, int what, int sign) {
        int best = -1;
        for (int i = 0; i < values.length; i++) {
            if (values[i] != Integer.MIN_VALUE && (best == -1 || values[i] > values[best])) {
                best = i;
            }
        }
        return best == -1 ? -1 : what == 0 ? best : sign * values[best];
    }

    public int youngest(int what) {
        in(what, 0, 1);
        return first(now.persons.stream().mapToInt(p -> -p.days).toArray(), what, -1);
    }

    public int richest(int what) {
        in(what, 0, 1);
        return first(now.persons.stream().mapToInt(p -> p.coins).toArray(), what, 1);
    }

    public int cheapest(int what) {
        in(what, 0, 1);
        int[] values = new int[now.persons.size()];
        for (int p = 0; p < values.length; p++) {
            values[p] = now.persons.get(p).paid == -1 ? -priceOf(now, p) : Integer.MIN_VALUE;
        }
        return first(values, what, -1);
    }

    public int crowd(int what) {
        in(what, 0, 1);
        int[] values = new int[61];
        java.util.Arrays.fill(values, Integer.MIN_VALUE);
        for (Task t : now.tasks) {
            if (!t.done) {
                values[t.monday] = Math.max(0, values[t.monday]) + 1;
            }
        }
        return first(values, what, 1);
    }

    public int next(int person, int what) {
        person(person);
        in(what, 0, 1);
        int[] values = new int[now.tasks.size()];
        for (int i = 0; i < values.length; i++) {
            Task t = now.tasks.get(i);
            boolean fit = t.owner == person && !t.done && t.monday >= now.week;
            values[i] = fit ? now.week - t.monday : Integer.MIN_VALUE;
        }
        return first(values, what, -1);
    }

    public int missed() {
        int bits = 0;
        for (int i = 0; i < now.tasks.size(); i++) {
            Task t = now.tasks.get(i);
            bits |= !t.done && t.monday < now.week ? 1 << i : 0;
        }
        return bits;
    }

    public int due() {
        return week(now.copy());
    }

    public int lone() {
        int bits = 0;
        for (int d = 0; d < town.worths.size(); d++) {
            bits |= Integer.bitCount(duty(d, 1)) == 1 ? 1 << d : 0;
        }
        return bits;
    }

    public int debt(int person) {
        person(person);
        return now.tasks.stream().filter(t -> t.owner == person && !t.done && t.monday >= now.week)
                .mapToInt(t -> t.fine).sum();
    }

    public int spare(int person, int n) {
        person(person);
        in(n, 0, 99);
        State s = now.copy();
        for (int i = 0; i < n; i++) {
            s.persons.get(person).paid = -1;
            week(s);
        }
        return s.persons.get(person).coins;
    }

    public int rush() {
        State s = now.copy();
        for (int p = 0; p < s.persons.size(); p++) {
            buy(s, p);
        }
        return boughtBits(s);
    }

    public int clear(int person, int n) {
        person(person);
        in(n, 0, 20);
        int bits = 0;
        for (int i = 0; i < n; i++) {
            int monday = now.week + i;
            bits |= now.tasks.stream().anyMatch(t -> t.owner == person && !t.done && t.monday == monday) ? 0 : 1 << i;
        }
        return bits;
    }

    public int back(int person) {
        person(person);
        State s = now.copy();
        return sell(s, person) ? s.persons.get(person).coins - now.persons.get(person).coins : -1;
    }

    public int loses(int n) {
        in(n, 0, 99);
        return later(n).lost - now.lost;
    }

    private int seed;

    private int draw(int by) {
        seed = seed * 1_103_515_245 + 12_345;
        return (seed & 0x7fffffff) / 65536 % by;
    }

    /** A YEAR: coins, days, worth lost, how often one bought, tasks done. */
    private int[] live(int start, int weeks, int q, int r) {
        State s = now.copy();
        seed = start;
        int bought = 0;
        for (int i = 0; i < weeks; i++) {
            if (!s.persons.isEmpty()) {
                int p = draw(s.persons.size());
                if (draw(16) < q) {
                    bought += buy(s, p) ? 1 : 0;
                }
                p = draw(s.persons.size());
                if (draw(16) < r) {
                    sell(s, p);
                }
            }
            week(s);
        }
        return new int[] {coinsOfAll(s), daysOfAll(s), s.lost - now.lost, bought, doneBits(s)};
    }

    public int year(int start, int weeks, int q, int r, int what) {
        fits(weeks >= 1 && weeks <= 96 && q >= 0 && q <= 16 && r >= 0 && r <= 16 && what >= 0 && what <= 4);
        return live(start, weeks, q, r)[what];
    }

    public int span(int start, int many, int weeks, int q, int r, int what, int task) {
        fits(many >= 1 && many <= 20 && weeks >= 1 && weeks <= 96 && q >= 0 && q <= 16 && r >= 0 && r <= 16
                && what >= 0 && what <= 2 && task >= 0 && task < now.tasks.size());
        int least = Integer.MAX_VALUE;
        int most = Integer.MIN_VALUE;
        int done = 0;
        for (int i = 0; i < many; i++) {
            int[] year = live(start + i, weeks, q, r);
            least = Math.min(least, year[2]);
            most = Math.max(most, year[2]);
            done += year[4] >> task & 1;
        }
        return what == 0 ? least : what == 1 ? most : done;
    }

    public int image() {
        if (images.size() == 3) {
            return -1;
        }
        List<State> kept = new ArrayList<>();
        for (State s : works) {
            kept.add(s.copy());
        }
        images.add(new Image(now.copy(), kept));
        return images.size();
    }

    public int restore() {
        if (images.isEmpty()) {
            return -1;
        }
        Image latest = images.remove(images.size() - 1);
        now = latest.state;
        works = latest.works;
        refusedSteps = 0;
        return images.size();
    }

    public int status(int what) {
        return what == 0 ? missingCount : what == 1 ? argumentCount : -1;
    }

    public int count(int what) {
        return what == 0 ? images.size() : what == 1 ? tape.length() : what == 2 ? works.size() : -1;
    }
}
