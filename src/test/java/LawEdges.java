/** The edges of what a LAW comes to: Terms from PRICE to by 0, promises 13 to 15. */
final class LawEdges {
    private static final String[] NAMES = {"week", "sold", "skipped", "coins", "wage", "needed", "tasks", "person"};
    private static final int[] MOST = {300, 5, 999, 999, 30, 6, 12, 5};
    /** The least number of 32 bits: 2 to the 31st wraps to it. */
    private static final String LEAST = "512*512*512*16";

    private LawEdges() {
    }

    static void run() {
        without();
        limits();
        order();
        names();
        needed();
        tasks();
        leastAndMost();
        arithmetic();
        price();
        would();
        can();
    }

    /** What a law of numbers alone comes to. */
    private static void comesTo(String law, int due) {
        BoughtMondays x = new BoughtMondays();
        Checks.reads(x, "law", law, 1, -1);
        Checks.due("would by " + law, x.would(0, 0, 0, 0, 0, 0, 0, 0), due);
    }

    private static void prices(BoughtMondays x, String law, int... due) {
        Checks.due("law " + law, Checks.law(x, law), 1);
        for (int p = 0; p < due.length; p++) {
            Checks.due("price(" + p + ") by " + law, x.price(p), due[p]);
        }
    }

    private static void without() {
        Doc.terms("without: 5 + sold * 3 + skipped");
        BoughtMondays x = new BoughtMondays();
        Checks.due("nothing sold", x.would(0, 0, 0, 0, 0, 0, 0, 0), 5);
        Checks.due("sold to five", x.would(0, 5, 0, 0, 0, 0, 0, 0), 20);
        Checks.due("skipped one", x.would(0, 0, 1, 0, 0, 0, 0, 0), 6);
        Checks.due("skipped 94", x.would(0, 0, 94, 0, 0, 0, 0, 0), 99);
        Checks.due("skipped 95: 99 at most", x.would(0, 0, 95, 0, 0, 0, 0, 0), 99);
        Checks.due("nothing else counts", x.would(300, 0, 0, 999, 30, 6, 12, 5), 5);
        Checks.reads(x, "law", "7+", -9, 2);
        Checks.due("behind a law with a fault", x.would(0, 1, 1, 0, 0, 0, 0, 0), 9);
        Checks.reads(x, "law", "7", 1, -1);
        Checks.due("with a law", x.would(0, 1, 1, 0, 0, 0, 0, 0), 7);
        Checks.town(x, "");
        Checks.due("behind a new town", x.would(0, 1, 1, 0, 0, 0, 0, 0), 9);
    }

    private static void limits() {
        Doc.terms("PRICE a PERSON would pay for this MONDAY: what comes out, 0 at least, 99 at most");
        comesTo("0", 0);
        comesTo("1", 1);
        comesTo("0-1", 0);
        comesTo("0-999*999", 0);
        comesTo(LEAST, 0);
        comesTo("98", 98);
        comesTo("99", 99);
        comesTo("100", 99);
        comesTo("999*999", 99);
        comesTo(LEAST + "-1", 99);
        BoughtMondays x = Checks.made("person 99 0;person 98 0;person 0 0;");
        prices(x, "100", 99, 99, 99);
        Checks.due("99 is paid, 98 are too few", Checks.work(x, "buy 0;buy 1;"), 1);
        Checks.due("coins then", x.person(0, 0), 0);
        prices(x, "0-100", 0, 0, 0);
        Checks.due("0 is paid", Checks.work(x, "buy 2;"), 1);
        Checks.due("coins then", x.person(2, 0), 0);
    }

    private static void order() {
        Doc.terms("E: T { + or - T }");
        comesTo("9-3-2", 4);
        comesTo("9-3+2", 8);
        comesTo("9+3-2-1-1", 8);
        comesTo("2+3*4", 14);
        comesTo("20-3*4", 8);
        comesTo("7", 7);

        Doc.terms("T: U { * or / or % U }");
        comesTo("48/4/3", 4);
        comesTo("48/4*3", 36);
        comesTo("17%5*3", 6);
        comesTo("3*17%5", 1);
        comesTo("17%12%3", 2);
        comesTo("70/9%4", 3);

        Doc.terms("or \"(\" E \")\"");
        comesTo("(7)", 7);
        comesTo("(2+3)*4", 20);
        comesTo("9-(3-2)", 8);
        comesTo("48/(4/3)", 48);
        comesTo("((2+1)*(3+1))", 12);
    }

    private static void names() {
        Doc.terms("\"week\" (its number)");
        BoughtMondays x = Checks.made("person 500 0;");
        prices(x, "week", 0);
        Checks.work(x, "week;");
        prices(x, "week", 1);
        Checks.work(x, "again 49[week;week;week;week;];");
        Checks.work(x, "again 49[week;week;];");
        Checks.work(x, "week;week;week;week;");
        prices(x, "week - 250", 49);
        Checks.work(x, "week;week;");
        prices(x, "week - 250", 50);

        Doc.terms("\"sold\" (how many others have bought off this MONDAY)");
        BoughtMondays y = Checks.made(Checks.times(6, "person 500 0;"));
        prices(y, "sold", 0, 0, 0, 0, 0, 0);
        Checks.work(y, "buy 0;");
        prices(y, "sold", 0, 1, 1, 1, 1, 1);
        Checks.work(y, "buy 1;buy 2;buy 3;buy 4;");
        prices(y, "sold", 4, 4, 4, 4, 4, 5);
        Checks.work(y, "buy 5;");
        prices(y, "sold", 5, 5, 5, 5, 5, 5);
        Checks.work(y, "sell 0;");
        prices(y, "sold", 5, 4, 4, 4, 4, 4);
        Checks.work(y, "week;");
        prices(y, "sold", 0, 0, 0, 0, 0, 0);

        Doc.terms("\"skipped\" (how many MONDAYS the PERSON has not had by now)");
        prices(y, "skipped", 0, 1, 1, 1, 1, 1);
        Checks.work(y, "buy 1;");
        prices(y, "skipped", 0, 1, 1, 1, 1, 1);
        Checks.work(y, "week;buy 2;sell 2;week;");
        prices(y, "skipped", 0, 2, 1, 1, 1, 1);

        Doc.terms("\"coins\" (of the PERSON)");
        BoughtMondays z = Checks.made("person 0 7;person 99 0;person 98 30;");
        prices(z, "coins", 0, 99, 98);
        prices(z, "coins - 60", 0, 39, 38);
        Checks.work(z, "buy 1;");
        prices(z, "coins", 0, 60, 98);
        Checks.work(z, "week;");
        prices(z, "coins", 7, 60, 99);

        Doc.terms("\"wage\" (W)");
        prices(z, "wage", 7, 0, 30);

        Doc.terms("\"person\" (the number)");
        prices(y, "person", 0, 1, 2, 3, 4, 5);
    }

    private static void needed() {
        Doc.terms("\"needed\" (DUTIES that the PERSON can do and no other one who stays)");
        BoughtMondays x = Checks.made("person 90 0;person 90 0;person 90 0;duty 1;duty 1;duty 1;duty 1;"
                + "can 0 0;can 0 1;can 1 1;can 1 2;can 2 2;");
        prices(x, "needed", 1, 0, 0);
        Checks.law(x, "0");
        Checks.work(x, "buy 1;");
        prices(x, "needed", 2, 0, 1);
        Checks.law(x, "0");
        Checks.work(x, "buy 0;");
        prices(x, "needed", 2, 1, 1);
        Checks.law(x, "0");
        Checks.work(x, "buy 2;");
        prices(x, "needed", 2, 2, 1);
        StringBuilder one = new StringBuilder("person 0 0;person 0 0;");
        for (int d = 0; d < 6; d++) {
            one.append("duty 1;can 1 ").append(d).append(';');
        }
        prices(Checks.made(one.toString()), "needed", 0, 6);
        prices(Checks.made("person 0 0;duty 1;"), "needed", 0);
        prices(Checks.made("person 0 0;"), "needed", 0);
    }

    private static void tasks() {
        Doc.terms("\"tasks\" (of the PERSON on this MONDAY, not done)");
        BoughtMondays x = Checks.made("person 90 0;person 90 0;person 90 0;"
                + "task 0 0 1;task 0 0 1;task 1 0 1;task 0 1 1;task 1 2 1;");
        prices(x, "tasks", 2, 1, 0);
        Checks.work(x, "later 0;");
        prices(x, "tasks", 1, 1, 0);
        Checks.work(x, "buy 1;");
        prices(x, "tasks", 1, 1, 0);
        Checks.work(x, "week;");
        prices(x, "tasks", 2, 0, 0);
        Checks.work(x, "week;");
        prices(x, "tasks", 0, 1, 0);
        Checks.work(x, "week;");
        prices(x, "tasks", 0, 0, 0);
        prices(Checks.made("person 0 0;" + Checks.times(12, "task 0 0 0;")), "tasks", 12);
    }

    private static void leastAndMost() {
        Doc.terms("\"least\" \"[\" E \",\" E \"]\"");
        comesTo("least[3,4]", 3);
        comesTo("least[4,3]", 3);
        comesTo("least[4,4]", 4);
        comesTo("least[0-5,3]+9", 4);
        comesTo("least[2*3,1+4]*2", 10);
        Checks.readsIn("", "law", "least[1]", -9, 7);
        Checks.readsIn("", "law", "least[1,2,3]", -9, 9);
        Checks.readsIn("", "law", "least[,1]", -9, 6);
        Checks.readsIn("", "law", "least[1,]", -9, 8);
        Checks.readsIn("", "law", "least[]", -9, 6);
        Checks.readsIn("", "law", "least(1,2)", -9, 5);

        Doc.terms("\"most\" \"[\" E \",\" E \"]\"");
        comesTo("most[3,4]", 4);
        comesTo("most[4,3]", 4);
        comesTo("most[4,4]", 4);
        comesTo("most[0-5,0-3]+9", 6);
        comesTo("most[least[9,2],1]", 2);
        Checks.readsIn("", "law", "most[1]", -9, 6);
        Checks.readsIn("", "law", "most[1,2,3]", -9, 8);
        Checks.readsIn("", "law", "most 1,2", -9, 5);
    }

    private static void arithmetic() {
        Doc.terms("Values are whole numbers of 32 bits that wrap");
        // 2,147,483,647 is reached and passed on both sides
        comesTo("(" + LEAST + "-1)/999/999/99", 21);
        comesTo("0-(" + LEAST + ")/999/999/99", 21);
        comesTo("(" + LEAST + "-1+1)/999/999/99+50", 29);
        comesTo("(0-(" + LEAST + "))/999/999/99+50", 29);
        // 999 * 999 * 999 * 3 is 2,991,008,997 and wraps to -1,303,958,299
        comesTo("50-999*999*999*3/999/999/99", 63);
        comesTo("512*512*512*32", 0);
        comesTo("512*512*512*32+7", 7);
        comesTo("most[" + LEAST + ",0]", 0);
        comesTo("least[" + LEAST + ",0]/999/999/99+50", 29);

        Doc.terms("/ cuts");
        comesTo("7/2", 3);
        comesTo("(0-7)/2+9", 6);
        comesTo("7/(0-2)+9", 6);
        comesTo("(0-7)/(0-2)", 3);
        comesTo("6/7", 0);
        comesTo("(" + LEAST + ")/(0-1)/999/999/99+50", 29);

        Doc.terms("% leaves (with the sign of what is divided)");
        comesTo("7%2", 1);
        comesTo("(0-7)%2+9", 8);
        comesTo("7%(0-2)+9", 10);
        comesTo("(0-7)%(0-2)+9", 8);
        comesTo("6%7", 6);
        comesTo("(" + LEAST + ")%(0-1)+7", 7);

        Doc.terms("by 0 both are 0");
        comesTo("7/0", 0);
        comesTo("7/0+3", 3);
        comesTo("7%0+3", 3);
        comesTo("0/0+3", 3);
        comesTo("0%0+3", 3);
        comesTo("(0-7)/(1-1)+3", 3);
        comesTo("(" + LEAST + ")%0+3", 3);
        comesTo("9/0*5+9%0*5+2", 2);
    }

    private static void price() {
        Doc.promise(13, "PRICE of a PERSON now (bought off: were it not).");
        BoughtMondays x = Checks.made("person 90 0;person 90 0;person 90 0;");
        Checks.due("price(0)", x.price(0), 5);
        Checks.work(x, "buy 0;buy 1;");
        Checks.due("price(0), bought off", x.price(0), 8);
        Checks.due("what it paid", x.person(0, 5), 5);
        Checks.due("price(1), bought off", x.price(1), 8);
        Checks.due("price(2)", x.price(2), 11);
        Checks.work(x, "week;");
        Checks.due("price(0), a week on", x.price(0), 6);
        Checks.due("price(2), a week on", x.price(2), 5);
        BoughtMondays poor = Checks.made("person 0 0;");
        Checks.due("who has no coins has a price, too", poor.price(0), 5);
        Checks.missing(x, "price(3)", () -> x.price(3));
        Checks.missing(x, "price(-1)", () -> x.price(-1));
    }

    private static int wouldBy(BoughtMondays x, int[] a) {
        return x.would(a[0], a[1], a[2], a[3], a[4], a[5], a[6], a[7]);
    }

    private static void would() {
        Doc.promise(14, "PRICE by the LAW for such week (0 to 300), sold (0 to 5), skipped (0 to 999), coins (0 to 999), "
                + "wage (0 to 30), needed (0 to 6), tasks (0 to 12), person (0 to 5).");
        for (int i = 0; i < NAMES.length; i++) {
            BoughtMondays x = new BoughtMondays();
            Checks.law(x, NAMES[i] + " - " + Math.max(0, MOST[i] - 50));
            int[] none = new int[8];
            Checks.due("the least " + NAMES[i], wouldBy(x, none), 0);
            Checks.due("the most of all", wouldBy(x, MOST), Math.min(50, MOST[i]));
            int[] alone = new int[8];
            alone[i] = MOST[i];
            Checks.due("the most " + NAMES[i], wouldBy(x, alone), Math.min(50, MOST[i]));
            int[] others = MOST.clone();
            others[i] = 0;
            Checks.due("the others the most", wouldBy(x, others), 0);
            for (int wrong : new int[] {-1, MOST[i] + 1, Integer.MIN_VALUE, Integer.MAX_VALUE}) {
                int[] a = none.clone();
                a[i] = wrong;
                Checks.argument(x, "would, " + NAMES[i] + " " + wrong, () -> wouldBy(x, a));
            }
        }
    }

    private static void can() {
        Doc.promise(15, "Whether buy could be done now.");
        BoughtMondays x = Checks.made("person 4 0;person 5 0;person 8 0;person 7 0;");
        Checks.holds("one coin too few", !x.can(0));
        Checks.holds("just enough", x.can(1));
        Checks.due("buy 1", Checks.work(x, "buy 1;"), 1);
        Checks.holds("who has bought can't", !x.can(1));
        Checks.holds("just enough for the higher price", x.can(2));
        Checks.holds("one too few for the higher price", !x.can(3));
        Checks.law(x, "0");
        Checks.holds("no coins are needed", x.can(0));
        Checks.holds("who has bought can't for nothing, either", !x.can(1));
        Checks.work(x, "sell 1;");
        Checks.holds("sold back, it can again", x.can(1));
        Checks.due("nothing is bought by asking", x.told(4), 0);
        Checks.missing(x, "can(4)", () -> x.can(4) ? 1 : 0);
        Checks.missing(x, "can(-1)", () -> x.can(-1) ? 1 : 0);
    }
}
