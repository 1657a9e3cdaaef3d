/** The edges of weeks that are only thought of: SKIPS, YEAR and DRAW of Terms 3, promises 21, 41 and 42. */
final class YearEdges {
    private static final int LAST_PERSON = RefusalEdges.PERSONS - 1;
    private static final int LAST_TASK = RefusalEdges.TASKS - 1;

    private YearEdges() {
    }

    static void run() {
        skipSets();
        skipPrices();
        skipCoins();
        skipTasks();
        skipBest();
        skips();
        yearSteps();
        yearWithoutPersons();
        draws();
        year();
        span();
    }

    private static int[] row(int... values) {
        return values;
    }

    // ---- SKIPS ----

    private static void skip(BoughtMondays x, int person, int n, int set) {
        Checks.due("skips(" + person + ", " + n + ", 0)", x.skips(person, n, 0), Integer.bitCount(set));
        Checks.due("skips(" + person + ", " + n + ", 1)", x.skips(person, n, 1), set);
    }

    /** A law that costs nothing to this person, whatever was asked ahead. */
    private static void skipBy(BoughtMondays x, int person, String law) {
        Checks.due("law " + law, Checks.law(x, "(" + law + ") * 99"), 1);
        x.would(300, 5, 999, 999, 30, 6, 12, 5);
        skip(x, person, 10, 1023);
        x.price(1 - person);
        skip(x, person, 10, 1023);
    }

    private static BoughtMondays lawful(String town, String law) {
        BoughtMondays x = Checks.made(town);
        Checks.due("law " + law, Checks.law(x, law), 1);
        return x;
    }

    private static void skipSets() {
        Doc.terms("SKIPS of a PERSON by n: sets of the next n MONDAYS (this one is the lowest bit; "
                + "whether it is bought off now is not asked, coins are as now)");
        BoughtMondays x = lawful("person 5 0;", "5");
        skip(x, 0, 0, 0);
        skip(x, 0, 1, 1);
        skip(x, 0, 10, 1);
        Checks.work(x, "week;");
        skip(x, 0, 10, 1);
        Checks.work(x, "buy 0;");
        skip(x, 0, 10, 0);
        BoughtMondays y = lawful("person 10 0;", "5");
        Checks.work(y, "buy 0;");
        skip(y, 0, 1, 1);
        skip(y, 0, 10, 1);
        Checks.due("bought off still", y.person(0, 5), 5);
        Checks.law(y, "0");
        skip(y, 0, 10, 1023);
    }

    private static void skipPrices() {
        Doc.terms("were just these bought off, each at the PRICE in its WEEK (no others buy any)");
        BoughtMondays x = lawful("person 10 0;person 90 0;duty 1;duty 1;can 0 0;can 0 1;can 1 1;", "week * 4");
        skip(x, 0, 10, 3);
        Checks.work(x, "week;week;");
        skip(x, 0, 10, 1);
        Checks.law(x, "(week - 2) * 4");
        skip(x, 0, 10, 3);
        // one more skipped each time
        Checks.law(x, "skipped * 4 + 1");
        skip(x, 0, 10, 3);
        Checks.work(x, "buy 1;");
        Checks.due("person 1 has bought off", x.told(4), 2);
        skipBy(x, 0, "sold * sold");
        skipBy(x, 1, "sold * sold");
        skipBy(x, 0, "(needed - 1) * (needed - 1)");
        skipBy(x, 1, "needed");
        skipBy(x, 0, "tasks * tasks + person * person + wage * wage");
        skipBy(x, 1, "(person - 1) * (person - 1)");
        Checks.law(x, "person * 99");
        skip(x, 1, 10, 0);
        BoughtMondays last = Checks.made("person 10 0;person 10 0;duty 1;duty 1;can 1 0;can 1 1;");
        skipBy(last, 1, "(needed - 2) * (needed - 2)");
        skipBy(last, 0, "needed");
        // coins fall as they are paid, 10, 9, 7, 3, and the price grows by that: 1, 2, 4, 8
        Checks.law(x, "11 - coins");
        skip(x, 0, 3, 7);
        skip(x, 0, 4, 7);
        skip(x, 0, 10, 7);
        // what was skipped by now counts from the first on
        Checks.work(x, "sell 1;");
        Checks.law(x, "0");
        Checks.work(x, "buy 0;week;buy 0;week;");
        Checks.law(x, "skipped * 2");
        skip(x, 0, 10, 3);
        BoughtMondays two = lawful("person 0 0;person 0 5;", "(wage - 5) * (wage - 5) + (person - 1) * (person - 1) + 5");
        skip(two, 1, 10, 2 + 8 + 32 + 128 + 512);
        skip(two, 0, 10, 0);
        BoughtMondays y = lawful("person 9 0;", "most[0, week - 300]");
        Checks.pass(y, 300);
        skip(y, 0, 4, 15);
        skip(y, 0, 5, 15);
    }

    private static void skipCoins() {
        Doc.terms("the WAGE earned on the others (999 coins at most)");
        skip(lawful("person 0 3;", "6"), 0, 2, 0);
        skip(lawful("person 0 3;", "6"), 0, 3, 4);
        skip(lawful("person 0 3;", "6"), 0, 5, 4);
        skip(lawful("person 0 3;", "6"), 0, 6, 32 + 4);
        skip(lawful("person 5 3;", "6"), 0, 2, 2);
        // on those that are bought off nothing is earned
        skip(lawful("person 6 30;", "6"), 0, 2, 1);
        BoughtMondays rich = lawful("person 500 30;", "99");
        Checks.pass(rich, 20);
        Checks.due("999 coins", rich.person(0, 0), 999);
        skip(rich, 0, 10, 1023);
        Checks.law(rich, "coins / 999 * 99");
        skip(rich, 0, 10, 1023);

        Doc.terms("there would be coins enough each time");
        skip(lawful("person 10 0;", "5"), 0, 10, 3);
        skip(lawful("person 9 0;", "5"), 0, 10, 1);
        skip(lawful("person 4 0;", "5"), 0, 10, 0);
        skip(lawful("person 4 1;", "5"), 0, 10, 2 + 128);
        skip(lawful("person 0 0;", "0"), 0, 10, 1023);
        skip(lawful("person 0 0;", "1"), 0, 10, 0);
    }

    private static void skipTasks() {
        Doc.terms("and no TASK of the PERSON that is not done falls on one of these, as it falls now");
        BoughtMondays x = lawful("person 50 0;person 50 0;task 0 1 9;task 0 3 0;task 1 2 9;task 0 10 9;", "0");
        skip(x, 0, 1, 1);
        skip(x, 0, 10, 1023 - 2 - 8);
        skip(x, 1, 10, 1023 - 4);
        Checks.work(x, "later 0;");
        skip(x, 0, 10, 1023 - 4 - 8);
        Checks.work(x, "week;");
        skip(x, 0, 10, 1023 - 2 - 4 - 512);
        Checks.work(x, "week;buy 0;week;");
        // task 0 lies behind, task 1 falls on this Monday, task 3 in seven weeks
        skip(x, 0, 10, 1023 - 1 - 128);
        Checks.work(x, "week;");
        skip(x, 0, 10, 1023 - 64);
        skip(x, 0, 6, 63);
        skip(x, 0, 7, 63);
        BoughtMondays y = lawful("person 50 0;" + "task 0 0 1;task 0 1 1;task 0 2 1;task 0 2 1;", "0");
        skip(y, 0, 3, 0);
        skip(y, 0, 4, 8);
    }

    private static void skipBest() {
        Doc.terms("of all such sets that of most MONDAYS; of alike sets the least bits.");
        // prices are 9, 5, 4, 9: two of them, or one
        BoughtMondays x = lawful("person 9 0;", "9 - week % 3 * 4 - week % 3 / 2 * (0 - 3)");
        Checks.due("price of week 0", x.price(0), 9);
        skip(x, 0, 1, 1);
        skip(x, 0, 2, 1);
        skip(x, 0, 3, 6);
        // prices are 8, 5, 5, 2: the second and third, or the first and fourth
        BoughtMondays y = lawful("person 10 0;", "8 - (week + 1) / 2 * 3");
        skip(y, 0, 3, 6);
        skip(y, 0, 4, 6);
        // all alike: the lowest bits
        skip(lawful("person 12 0;", "4"), 0, 10, 7);
        // it costs 3 at first, nothing later: waiting is the same, the least bits are those of the first
        skip(lawful("person 3 0;", "most[0, 3 - week]"), 0, 1, 1);
        skip(lawful("person 3 0;", "most[0, 3 - week * 3]"), 0, 10, 1023);
        skip(lawful("person 2 0;", "most[0, 3 - week * 3]"), 0, 10, 1022);
    }

    private static void skips() {
        Doc.promise(21, "SKIPS by n (0 to 10): 0 how many, 1 the set (bits).");
        BoughtMondays x = lawful("person 0 0;", "0");
        for (int n = 0; n <= 10; n++) {
            skip(x, 0, n, (1 << n) - 1);
        }
        RefusalEdges.edges("skips", "paa", row(0, 3, 0), row(0, 0, 0), row(LAST_PERSON, 10, 1));
    }

    // ---- YEAR ----

    /** The draws of a seed, told with whole numbers that do not wrap. */
    private static final class Draws {
        private long seed;

        Draws(int seed) {
            this.seed = seed & 0xffffffffL;
        }

        int by(int bound) {
            seed = (seed * 1103515245L + 12345L) % 4294967296L;
            return (int) (seed / 65536L % 32768L % bound);
        }
    }

    private static void yearSteps() {
        Doc.terms("A YEAR by a SEED: for so many WEEKS: DRAW by how many PERSONS there are, DRAW by 16 below Q: "
                + "buy (if it can be done); DRAW by how many PERSONS, DRAW by 16 below R: sell (if it can); then week.");
        String town = Checks.times(3, "person 500 0;");
        for (int seed = -20; seed < 20; seed++) {
            Draws draws = new Draws(seed);
            int buyer = draws.by(3);
            int chance = draws.by(16);
            int seller = draws.by(3);
            int sellChance = draws.by(16);
            BoughtMondays x = lawful(town, "5");
            Checks.due("q is not above the draw", x.year(seed, 1, chance, 0, 3), 0);
            Checks.due("q is above the draw", x.year(seed, 1, chance + 1, 0, 3), 1);
            Checks.due("coins", x.year(seed, 1, chance + 1, 0, 0), 1495);
            Checks.due("days", x.year(seed, 1, chance + 1, 0, 1), 20);
            boolean same = buyer == seller;
            Checks.due("r is not above the draw", x.year(seed, 1, 16, sellChance, 1), 20);
            Checks.due("r is above the draw", x.year(seed, 1, 16, sellChance + 1, 1), same ? 21 : 20);
            Checks.due("coins, half is back", x.year(seed, 1, 16, sellChance + 1, 0), same ? 1497 : 1495);
            Checks.due("who sold back has bought, too", x.year(seed, 1, 16, 16, 3), 1);
            Checks.work(x, "buy " + buyer + ";");
            Checks.due("who has bought off can't once more", x.year(seed, 1, 16, 0, 3), 0);
            Checks.due("days", x.year(seed, 1, 16, 0, 1), 20);
            Checks.law(x, "99");
            Checks.due("what was paid counts", x.year(seed, 1, 0, 16, 0), same ? 1497 : 1495);
            BoughtMondays poor = lawful(Checks.times(3, "person 4 0;"), "5");
            Checks.due("coins are too few", poor.year(seed, 1, 16, 16, 3), 0);
            Checks.due("they stay", poor.year(seed, 1, 16, 16, 1), 21);
        }
        for (int seed : new int[] {0, 1, 77, -1, Integer.MAX_VALUE, Integer.MIN_VALUE}) {
            yearDue(seed, 8, 11, 5);
            yearDue(seed, 8, 16, 16);
            yearDue(seed, 96, 11, 5);
        }
    }

    private static final String TOWN = "person 60 3;person 90 0;person 5 9;duty 7;duty 3;can 1 0;can 2 0;can 2 1;"
            + "task 0 1 3;task 1 0 4;task 2 60 9;task 2 7 1;";

    private static void yearDue(int seed, int weeks, int q, int r) {
        BoughtMondays lived = Checks.made(TOWN);
        int bought = live(lived, seed, weeks, q, r);
        int[] due = {lived.told(7), lived.told(8), lived.told(6), bought, lived.told(5)};
        BoughtMondays x = Checks.made(TOWN);
        Checks.due("the week", lived.told(3), weeks);
        for (int what = 0; what <= 4; what++) {
            // works that hold many weeks do not tell which of their steps were refused
            if (what != 3 || weeks <= 8) {
                Checks.due("year(" + seed + ", " + weeks + ", " + q + ", " + r + ", " + what + ")",
                        x.year(seed, weeks, q, r, what), due[what]);
            }
        }
    }

    /** Lives a year by the steps of works, two of them a week, or one for eight weeks: how often one bought. */
    private static int live(BoughtMondays x, int seed, int weeks, int q, int r) {
        Draws draws = new Draws(seed);
        int bought = 0;
        StringBuilder steps = new StringBuilder();
        for (int i = 0; i < weeks; i++) {
            int buyer = draws.by(3);
            steps.append(draws.by(16) < q ? "buy " + buyer + ";" : "");
            if (weeks <= 8) {
                bought += Checks.work(x, steps.toString());
                steps.setLength(0);
            }
            int seller = draws.by(3);
            steps.append(draws.by(16) < r ? "sell " + seller + ";" : "").append("week;");
            if (weeks <= 8 || i % 8 == 7) {
                Checks.work(x, steps.toString());
                steps.setLength(0);
            }
        }
        return bought;
    }

    private static void yearWithoutPersons() {
        Doc.terms("Without PERSONS there is no DRAW, WEEKS go by.");
        BoughtMondays x = lawful("duty 30;duty 1;", "0");
        int[] due = {0, 0, 31 * 96, 0, 0};
        for (int what = 0; what <= 4; what++) {
            Checks.due("a year of 96 weeks, " + what, x.year(7, 96, 16, 16, what), due[what]);
        }
        Checks.due("a year of one week", x.year(7, 1, 16, 16, 2), 31);
        BoughtMondays none = new BoughtMondays();
        for (int what = 0; what <= 4; what++) {
            Checks.due("a year without anything, " + what, none.year(7, 96, 16, 16, what), 0);
        }
    }

    private static void draws() {
        Doc.terms("DRAW: the SEED (32 bits) becomes itself times 1,103,515,245, and 12,345 (it wraps); its bits 16 to 30, "
                + "what is left of them.");
        // by seed 1: 16,838, 5,758, 10,113, 17,515 and 31,051
        Draws one = new Draws(1);
        for (int due : new int[] {16838, 5758, 10113, 17515, 31051}) {
            Checks.due("a draw of seed 1", one.by(32768), due);
        }
        int[] seeds = {0, 1, 2, -1, -2, 12345, -12345, 65535, 65536, 1 << 30, Integer.MAX_VALUE, Integer.MIN_VALUE,
            Integer.MAX_VALUE - 1, Integer.MIN_VALUE + 1, 1103515245, 99999999};
        for (int persons = 1; persons <= 6; persons++) {
            StringBuilder town = new StringBuilder(Checks.times(persons, "person 0 0;"));
            for (int p = 0; p < persons; p++) {
                town.append("task ").append(p).append(" 0 0;task ").append(p).append(" 1 0;");
            }
            BoughtMondays x = lawful(town.toString(), "0");
            for (int seed : seeds) {
                // who buys off a Monday leaves the task of that Monday undone
                Draws draws = new Draws(seed);
                int first = draws.by(persons);
                draws.by(16);
                draws.by(persons);
                draws.by(16);
                int second = draws.by(persons);
                int all = (1 << 2 * persons) - 1;
                Checks.due("the first of " + persons + " by " + seed, x.year(seed, 1, 16, 0, 4),
                        0x555 & all & ~(1 << 2 * first));
                Checks.due("the second of " + persons + " by " + seed, x.year(seed, 2, 16, 0, 4),
                        all & ~(1 << 2 * first) & ~(2 << 2 * second));
            }
        }
    }

    private static void year() {
        Doc.promise(41, "A YEAR of so many WEEKS (1 to 96), Q, R (0 to 16): 0 coins of all then, 1 days lived by all then, "
                + "2 worth that was lost in it, 3 how often one bought, 4 TASKS that are done then (bits).");
        BoughtMondays x = Checks.made("person 50 2;person 50 0;duty 7;can 1 0;task 0 1 3;task 1 0 4;task 0 60 1;");
        int[][] due = {{1, 102, 14, 0, 0, 2}, {2, 104, 28, 0, 0, 3}, {60, 220, 840, 0, 0, 3}, {61, 222, 854, 0, 0, 7},
            {96, 292, 1344, 0, 0, 7}};
        for (int[] d : due) {
            for (int what = 0; what <= 4; what++) {
                Checks.due("a year of " + d[0] + " weeks, " + what, x.year(5, d[0], 0, 16, what), d[1 + what]);
            }
        }
        Checks.work(x, "buy 1;week;buy 1;");
        Checks.due("lost by now", x.told(6), 7);
        Checks.due("lost in it, this Monday being bought off", x.year(5, 1, 0, 0, 2), 7);
        Checks.due("lost in it, the next ones not", x.year(5, 96, 0, 0, 2), 7);
        Checks.due("days lived then, those ahead of it, too", x.year(5, 1, 0, 0, 1), 13 + 13);
        Checks.due("tasks of before that are done", x.year(5, 1, 0, 0, 4), 1);
        Checks.law(x, "0");
        Checks.due("one bought each week, but for this one's who has", x.year(5, 96, 16, 0, 3) >= 95 ? 1 : 0, 1);
        int[] least = row(0, 1, 0, 0, 0);
        int[] most = row(0, 96, 16, 16, 4);
        for (int index = 1; index <= 4; index++) {
            RefusalEdges.edge("year", "aaaaa", row(5, 3, 8, 8, 0), index, least, most);
            RefusalEdges.edge("year", "aaaaa", row(Integer.MIN_VALUE, 3, 8, 8, 0), index, least, most);
            RefusalEdges.edge("year", "aaaaa", row(Integer.MAX_VALUE, 3, 8, 8, 0), index, least, most);
        }
    }

    private static void span() {
        Doc.promise(42, "Of so many SEEDS (1 to 20; seed, seed and 1, ..): 0 the least worth that was lost in it, 1 the most, "
                + "2 by how many a TASK is done then. (IllegalArgumentException: no such TASK, also for 0, 1.)");
        for (int seed : new int[] {0, 1, 77, -10, Integer.MAX_VALUE - 3, Integer.MAX_VALUE, Integer.MIN_VALUE}) {
            for (int many : new int[] {1, 2, 20}) {
                spanDue(seed, many);
            }
        }
        BoughtMondays x = Checks.made("person 0 0;duty 3;task 0 0 0;task 0 1 0;");
        Checks.work(x, "week;");
        Checks.due("the least, lost in it alone", x.span(1, 20, 2, 0, 0, 0, 0), 6);
        Checks.due("the most, lost in it alone", x.span(1, 20, 2, 0, 0, 1, 0), 6);
        Checks.due("a task that was done", x.span(1, 20, 1, 16, 16, 2, 0), 20);
        Checks.due("a task that is done by all", x.span(1, 20, 1, 0, 0, 2, 1), 20);
        BoughtMondays none = Checks.made("person 0 0;");
        for (int what = 0; what <= 2; what++) {
            int asked = what;
            Checks.argument(none, "span without tasks, " + what, () -> none.span(1, 1, 1, 0, 0, asked, 0));
        }
        int[] least = row(0, 1, 1, 0, 0, 0, 0);
        int[] most = row(0, 20, 96, 16, 16, 2, LAST_TASK);
        for (int index = 1; index <= 6; index++) {
            for (int what = 0; what <= 2; what++) {
                RefusalEdges.edge("span", "aaaaaaa", row(5, 2, 3, 8, 8, what, 0), index, least, most);
            }
        }
    }

    private static void spanDue(int seed, int many) {
        BoughtMondays x = Checks.made(TOWN);
        int least = Integer.MAX_VALUE;
        int most = 0;
        int[] done = new int[4];
        for (int i = 0; i < many; i++) {
            int lost = x.year(seed + i, 9, 12, 3, 2);
            least = Math.min(least, lost);
            most = Math.max(most, lost);
            for (int t = 0; t < 4; t++) {
                done[t] += x.year(seed + i, 9, 12, 3, 4) >> t & 1;
            }
        }
        String call = "span(" + seed + ", " + many + ", 9, 12, 3, ";
        for (int t = 0; t < 4; t++) {
            Checks.due(call + "0, " + t + ")", x.span(seed, many, 9, 12, 3, 0, t), least);
            Checks.due(call + "1, " + t + ")", x.span(seed, many, 9, 12, 3, 1, t), most);
            Checks.due(call + "2, " + t + ")", x.span(seed, many, 9, 12, 3, 2, t), done[t]);
        }
    }
}
