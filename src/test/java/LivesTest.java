/** Promises 8 to 12 and 43 to 46: what work changes, and how it is taken back. */
public final class LivesTest {
    private static final String TOWN = "person 40 5;person 9 2;person 100 0;duty 10;duty 4;can 0 0;can 1 0;can 1 1;"
            + "can 2 1;task 0 0 7;task 0 2 9;task 1 1 30;task 2 60 1;";

    private LivesTest() {
    }

    public static void main(String[] args) {
        told();
        person();
        duty();
        task();
        buyAndSell();
        later();
        week();
        undo();
        images();
        counts();
        Checks.end("LivesTest");
    }

    private static void told() {
        BoughtMondays x = Checks.made(TOWN);
        Checks.work(x, "week;buy 0;buy 2;sell 1;");
        Checks.book(x, "1 1;");
        // coins: 40 + 5 - 5, 9 + 2, 100 + 0 - 8
        int[] due = {3, 2, 4, 1, 5, 1, 0, 143, 21, 1, 1};
        for (int what = 0; what <= 10; what++) {
            Checks.due("told(" + what + ")", x.told(what), due[what]);
        }
        Checks.argument(x, "told(11)", () -> x.told(11));
        Checks.argument(x, "told(-1)", () -> x.told(-1));
    }

    private static void person() {
        BoughtMondays x = Checks.made(TOWN);
        Checks.work(x, "buy 0;week;week;buy 0;");
        // 40 - 5 - 7 (fine) + 5 - 6; 6 + 7 days
        int[] due = {27, 5, 13, 1, 1, 6, 7};
        for (int what = 0; what <= 6; what++) {
            int asked = what;
            Checks.due("person(0, " + what + ")", x.person(0, what), due[what]);
            Checks.missing(x, "person(3)", () -> x.person(3, asked));
        }
        Checks.due("person(1, 5)", x.person(1, 5), -1);
        Checks.due("person(1, 4)", x.person(1, 4), 3);
        Checks.argument(x, "person(0, 7)", () -> x.person(0, 7));
        Checks.argument(x, "person(2, -1)", () -> x.person(2, -1));
        Checks.missing(x, "person(-1, 7)", () -> x.person(-1, 7));
    }

    private static void duty() {
        BoughtMondays x = Checks.made(TOWN);
        Checks.due("duty(0, 0)", x.duty(0, 0), 10);
        Checks.due("duty(0, 1)", x.duty(0, 1), 3);
        Checks.due("duty(1, 0)", x.duty(1, 0), 4);
        Checks.due("duty(1, 1)", x.duty(1, 1), 6);
        Checks.work(x, "buy 1;");
        Checks.due("duty(1, 1), one bought off", x.duty(1, 1), 6);
        Checks.missing(x, "duty(2, 9)", () -> x.duty(2, 9));
        Checks.missing(x, "duty(-1, 0)", () -> x.duty(-1, 0));
        Checks.argument(x, "duty(1, 2)", () -> x.duty(1, 2));
        Checks.argument(x, "duty(1, -1)", () -> x.duty(1, -1));
    }

    private static void task() {
        BoughtMondays x = Checks.made(TOWN);
        Checks.work(x, "later 1;week;");
        int[][] due = {{0, 0, 7, 1}, {0, 3, 9, 0}, {1, 1, 30, 0}, {2, 60, 1, 0}};
        for (int t = 0; t < 4; t++) {
            for (int what = 0; what < 4; what++) {
                Checks.due("task(" + t + ", " + what + ")", x.task(t, what), due[t][what]);
            }
        }
        Checks.missing(x, "task(4, 4)", () -> x.task(4, 4));
        Checks.missing(x, "task(-1, 0)", () -> x.task(-1, 0));
        Checks.argument(x, "task(3, 4)", () -> x.task(3, 4));
        Checks.argument(x, "task(3, -1)", () -> x.task(3, -1));
    }

    private static void buyAndSell() {
        BoughtMondays x = Checks.made("person 5 0;person 8 0;person 10 0;");
        Checks.due("just coins enough", Checks.work(x, "buy 0;buy 1;buy 2;buy 0;"), 2);
        Checks.due("who bought", x.told(4), 3);
        Checks.due("two refused", x.told(10), 2);
        Checks.due("paid", x.person(1, 5), 8);
        Checks.due("nobody else paid", x.person(2, 0), 10);
        Checks.due("sold back", Checks.work(x, "sell 0;sell 0;buy 2;buy 0;"), 2);
        Checks.due("half, cut", x.person(0, 0), 2);
        Checks.due("not bought off any more", x.person(0, 5), -1);
        Checks.due("it bought behind one other", x.person(2, 5), 8);
        Checks.law(x, "0");
        Checks.due("a price of 0", Checks.work(x, "buy 0;"), 1);
        Checks.due("is paid", x.person(0, 5), 0);
        Checks.due("and is bought", x.told(4), 7);
        Checks.due("half of nothing", x.back(0), 0);
    }

    private static void later() {
        BoughtMondays x = Checks.made("person 90 0;task 0 59 1;task 0 1 1;task 0 0 1;");
        Checks.due("to Monday 60", Checks.work(x, "later 0;later 0;later 1;"), 2);
        Checks.due("no further", x.task(0, 1), 60);
        Checks.due("refused", x.told(10), 1);
        Checks.due("a task that is done", Checks.work(x, "week;later 2;"), 1);
        Checks.due("is done", x.told(5), 4);
        Checks.due("a task that lies behind", Checks.work(x, "week;buy 0;week;later 1;"), 3);
        Checks.due("stays behind", x.task(1, 1), 2);
        Checks.due("missed", x.missed(), 2);
        BoughtMondays y = Checks.made("person 90 0;task 0 0 9;");
        Checks.work(y, "buy 0;later 0;week;");
        Checks.due("put off this Monday", y.person(0, 6), 0);
        Checks.work(y, "later 0;week;week;");
        Checks.due("done in the end", y.told(5), 1);
    }

    private static void week() {
        BoughtMondays x = Checks.made("person 500 30;person 20 30;duty 3;duty 5;duty 9;can 0 0;can 1 1;can 0 1;"
                + "task 1 0 7;task 1 0 4;task 1 0 60;task 1 0 2;task 0 0 5;");
        Checks.due("steps", Checks.work(x, "buy 1;week;"), 2);
        // 20 - 5 is 15: 7, 4, 4 of 60, 0 of 2
        Checks.due("coins last so far", x.person(1, 0), 0);
        Checks.due("fines paid", x.person(1, 6), 15);
        Checks.due("done", x.told(5), 16);
        Checks.due("lost: nobody can do duty 2", x.told(6), 9);
        Checks.due("days", x.person(0, 2), 7);
        Checks.due("days of who skipped", x.person(1, 2), 6);
        Checks.due("skipped", x.person(1, 3), 1);
        Checks.due("not skipped", x.person(0, 3), 0);
        Checks.due("no wage", x.person(1, 0), 0);
        Checks.due("nothing is bought off", x.told(4), 0);
        Checks.work(x, "buy 0;week;");
        Checks.due("lost", x.told(6), 9 + 3 + 9);
        Checks.work(x, "again 20[week;];");
        Checks.due("999 coins at most", x.person(0, 0), 999);
        Checks.due("wages", x.person(1, 0), 21 * 30);
        Checks.due("tasks that lie behind are never done", x.told(5), 16);
    }

    private static void undo() {
        BoughtMondays x = Checks.made(TOWN);
        Checks.due("undo() of nothing", x.undo(), -1);
        Checks.work(x, "buy 0;later 1;week;");
        Checks.work(x, "buy 2;sell 0;");
        Checks.law(x, "1");
        Checks.book(x, "0 1;");
        Checks.work(x, "week;week;week;");
        Checks.due("undo()", x.undo(), 2);
        Checks.due("the week", x.told(3), 1);
        Checks.due("bought off", x.told(4), 4);
        Checks.due("told(10)", x.told(10), 0);
        Checks.due("the law stays", x.price(0), 1);
        Checks.due("the book stays", x.told(9), 1);
        Checks.due("undo()", x.undo(), 1);
        Checks.due("bought off", x.told(4), 0);
        Checks.due("fines", x.person(0, 6), 7);
        Checks.due("undo()", x.undo(), 0);
        Checks.due("the week", x.told(3), 0);
        Checks.due("coins", x.told(7), 149);
        Checks.due("days", x.told(8), 0);
        Checks.due("done", x.told(5), 0);
        Checks.due("lost", x.told(6), 0);
        Checks.due("the Monday", x.task(1, 1), 2);
        Checks.due("skipped", x.person(0, 3), 0);
        Checks.due("fines", x.person(0, 6), 0);
        Checks.due("undo()", x.undo(), -1);
        Checks.work(x, "buy 2;week;buy 2;buy 0;week;");
        Checks.work(x, "buy 2;week;");
        Checks.due("skipped", x.person(2, 3), 3);
        x.undo();
        Checks.due("skipped by then", x.person(2, 3), 2);
        Checks.due("skipped by then", x.person(0, 3), 1);
    }

    private static void images() {
        BoughtMondays x = Checks.made(TOWN);
        Checks.due("restore() of nothing", x.restore(), -1);
        Checks.work(x, "buy 0;week;");
        Checks.due("image()", x.image(), 1);
        Checks.work(x, "buy 2;sell 0;");
        Checks.due("image()", x.image(), 2);
        Checks.law(x, "2");
        Checks.work(x, "week;sell 1;");
        Checks.due("image()", x.image(), 3);
        Checks.due("image()", x.image(), -1);
        Checks.due("count(0)", x.count(0), 3);
        x.undo();
        x.undo();
        x.undo();
        Checks.work(x, "sell 0;");
        Checks.due("told(10)", x.told(10), 1);
        Checks.missing(x, "person(3, 0)", () -> x.person(3, 0));
        Checks.due("restore()", x.restore(), 2);
        Checks.due("told(10) behind it", x.told(10), 0);
        Checks.due("the week", x.told(3), 2);
        Checks.due("works", x.count(2), 3);
        Checks.due("status is kept", x.status(0), 1);
        Checks.due("the law is kept", x.price(0), 2);
        Checks.due("undo()", x.undo(), 2);
        Checks.due("the week", x.told(3), 1);
        Checks.due("bought off", x.told(4), 4);
        x.undo();
        x.undo();
        Checks.due("restore()", x.restore(), 1);
        Checks.due("bought off", x.told(4), 4);
        Checks.due("paid", x.person(2, 5), 5);
        Checks.due("works", x.count(2), 2);
        Checks.due("image() again", x.image(), 2);
        Checks.due("restore()", x.restore(), 1);
        Checks.due("restore()", x.restore(), 0);
        Checks.due("works", x.count(2), 1);
        Checks.due("fines", x.person(0, 6), 7);
        Checks.due("undo()", x.undo(), 0);
        Checks.due("coins", x.told(7), 149);
        Checks.due("restore()", x.restore(), -1);
        for (int i = 1; i <= 16; i++) {
            Checks.work(x, "week;");
        }
        x.image();
        Checks.due("undo()", x.undo(), 15);
        x.restore();
        Checks.due("sixteen works", x.count(2), 16);
        for (int i = 15; i >= 0; i--) {
            Checks.due("undo()", x.undo(), i);
            Checks.due("the week", x.told(3), i);
        }
    }

    private static void counts() {
        BoughtMondays x = Checks.made(TOWN);
        x.feed(1, 2, 3, 4, 5);
        x.image();
        Checks.due("count(0)", x.count(0), 1);
        Checks.due("count(1)", x.count(1), 20);
        Checks.due("count(2)", x.count(2), 0);
        Checks.due("count(3)", x.count(3), -1);
        Checks.due("count(-1)", x.count(-1), -1);
        Checks.due("status(2)", x.status(2), -1);
        Checks.due("status(-1)", x.status(-1), -1);
        Checks.due("status(0)", x.status(0), 0);
        Checks.due("status(1)", x.status(1), 0);
        Checks.missing(x, "price(9)", () -> x.price(9));
        Checks.argument(x, "told(99)", () -> x.told(99));
        Checks.argument(x, "told(98)", () -> x.told(98));
        Checks.due("status(0)", x.status(0), 1);
        Checks.due("status(1)", x.status(1), 2);
        Checks.due("a fault is no refusal", Checks.town(x, "x"), -9);
        Checks.due("status(1)", x.status(1), 2);
    }
}
