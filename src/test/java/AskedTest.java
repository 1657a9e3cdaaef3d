/** Promises 13 to 42: what is asked, nothing being changed by it. */
public final class AskedTest {
    private static final String TOWN = "person 40 5;person 9 2;person 100 0;duty 10;duty 4;can 0 0;can 1 0;can 1 1;"
            + "can 2 1;task 0 0 7;task 0 2 9;task 1 1 30;task 2 60 1;";

    private AskedTest() {
    }

    public static void main(String[] args) {
        price();
        would();
        can();
        ahead();
        left();
        stay();
        given();
        skips();
        apart();
        together();
        met();
        open();
        share();
        youngest();
        next();
        missed();
        due();
        lone();
        debt();
        spare();
        cheapest();
        crowd();
        rush();
        clear();
        richest();
        back();
        loses();
        year();
        span();
        Checks.end("AskedTest");
    }

    private static void price() {
        BoughtMondays x = Checks.made(TOWN);
        Checks.work(x, "buy 0;week;buy 2;");
        Checks.due("sold and skipped", x.price(0), 5 + 3 + 1);
        Checks.due("bought off: were it not", x.price(2), 5);
        String[] laws = {"week", "1", "sold", "1", "skipped", "1", "coins", "28", "wage", "5", "needed", "0",
            "tasks", "0", "person", "0"};
        for (int i = 0; i < laws.length; i += 2) {
            Checks.law(x, laws[i]);
            Checks.due("price by " + laws[i], x.price(0), Integer.parseInt(laws[i + 1]));
        }
        Checks.law(x, "coins");
        Checks.due("coins as they are now", x.price(2), 95);
        Checks.law(x, "sold");
        Checks.due("others, not itself", x.price(2), 0);
        Checks.law(x, "needed");
        Checks.due("duty 1, the other one having bought off", x.price(1), 1);
        Checks.due("who has bought off is needed as before", x.price(2), 0);
        Checks.law(x, "tasks");
        Checks.due("tasks on this Monday", x.price(1), 1);
        Checks.work(x, "later 2;");
        Checks.due("put off", x.price(1), 0);
        Checks.missing(x, "price(3)", () -> x.price(3));
        Checks.missing(x, "price(-1)", () -> x.price(-1));
        BoughtMondays y = Checks.made("person 9 0;duty 1;duty 1;duty 1;can 0 0;can 0 2;task 0 0 1;task 0 0 1;");
        Checks.law(y, "needed * 10 + tasks");
        Checks.due("needed and tasks", y.price(0), 22);
    }

    private static void would() {
        BoughtMondays x = new BoughtMondays();
        Checks.due("without a law", x.would(300, 5, 2, 999, 30, 6, 12, 5), 22);
        Checks.due("99 at most", x.would(0, 0, 999, 0, 0, 0, 0, 0), 99);
        Checks.law(x, "week - 290 + sold * 2 + skipped / 333 + coins / 999 + wage % 16 + needed * 3 + tasks - person");
        Checks.due("all names", x.would(300, 5, 999, 999, 30, 6, 12, 5), 10 + 10 + 3 + 1 + 14 + 18 + 12 - 5);
        int[] most = {300, 5, 999, 999, 30, 6, 12, 5};
        for (int i = 0; i < 8; i++) {
            int[] a = most.clone();
            a[i]++;
            Checks.argument(x, "would, argument " + i + " too great",
                    () -> x.would(a[0], a[1], a[2], a[3], a[4], a[5], a[6], a[7]));
            int[] b = new int[8];
            b[i] = -1;
            Checks.argument(x, "would, argument " + i + " below 0",
                    () -> x.would(b[0], b[1], b[2], b[3], b[4], b[5], b[6], b[7]));
        }
    }

    private static void can() {
        BoughtMondays x = Checks.made("person 8 0;person 7 0;person 50 0;");
        Checks.holds("coins enough", x.can(0) && x.can(1) && x.can(2));
        Checks.work(x, "buy 2;");
        Checks.holds("just enough", x.can(0));
        Checks.holds("one too few", !x.can(1));
        Checks.holds("bought off", !x.can(2));
        Checks.missing(x, "can(3)", () -> x.can(3) ? 1 : 0);
        Checks.missing(x, "can(-1)", () -> x.can(-1) ? 1 : 0);
    }

    private static void ahead() {
        BoughtMondays x = Checks.made(TOWN);
        Checks.work(x, "buy 0;");
        Checks.due("coins now", x.ahead(0, 0), 144);
        Checks.due("days now", x.ahead(0, 1), 0);
        Checks.due("done now", x.ahead(0, 2), 0);
        Checks.due("coins in a week", x.ahead(1, 0), 144 - 7 + 2);
        Checks.due("days in a week", x.ahead(1, 1), 20);
        Checks.due("done in a week", x.ahead(1, 2), 0);
        Checks.due("done in three", x.ahead(3, 2), 6);
        Checks.due("coins in three", x.ahead(3, 0), 137 + 2 + 7 + 7);
        Checks.due("done in 99", x.ahead(99, 2), 14);
        Checks.due("days in 99", x.ahead(99, 1), 99 * 21 - 1);
        Checks.due("nothing is changed", x.told(3) * 1000 + x.told(7), 144);
        Checks.work(x, "again 60[week;week;week;];");
        Checks.work(x, "again 60[week;week;week;];");
        Checks.due("week 300", x.told(3), 300);
        Checks.due("days beyond week 300", x.ahead(10, 1), x.told(8) + 210);
        Checks.argument(x, "ahead(100, 0)", () -> x.ahead(100, 0));
        Checks.argument(x, "ahead(-1, 0)", () -> x.ahead(-1, 0));
        Checks.argument(x, "ahead(0, 3)", () -> x.ahead(0, 3));
        Checks.argument(x, "ahead(0, -1)", () -> x.ahead(0, -1));
    }

    private static void left() {
        BoughtMondays x = Checks.made("person 50 0;person 50 0;duty 1;duty 1;duty 1;can 0 0;can 0 1;can 1 1;");
        Checks.due("nobody can do it", x.left(), 4);
        Checks.work(x, "buy 0;");
        Checks.due("one bought off", x.left(), 5);
        Checks.work(x, "buy 1;");
        Checks.due("all bought off", x.left(), 7);
        Checks.work(x, "sell 1;");
        Checks.due("sold back", x.left(), 5);
    }

    private static void stay() {
        BoughtMondays x = Checks.made("person 50 0;person 50 0;person 50 0;duty 1;duty 1;duty 1;duty 1;"
                + "can 0 0;can 1 1;can 2 0;can 2 1;can 1 2;");
        int[] due = {0, 1, 2, 4, 2, 3, 2, 3};
        for (int duties = 0; duties < 8; duties++) {
            Checks.due("stay(" + duties + ")", x.stay(duties), due[duties]);
        }
        for (int duties = 8; duties < 16; duties++) {
            Checks.due("stay(" + duties + ")", x.stay(duties), -1);
        }
        Checks.work(x, "buy 2;");
        Checks.due("bought off or not", x.stay(3), 4);
        Checks.argument(x, "stay(16)", () -> x.stay(16));
        Checks.argument(x, "stay(-1)", () -> x.stay(-1));
        BoughtMondays y = Checks.made("duty 1;");
        Checks.due("without persons", y.stay(1), -1);
        Checks.due("without persons, nothing told", y.stay(0), 0);
    }

    private static void givers(BoughtMondays x, int worth, int... persons) {
        Checks.due("given()", x.given(), worth);
        for (int d = 0; d < persons.length; d++) {
            Checks.due("giver(" + d + ")", x.giver(d), persons[d]);
        }
        Checks.missing(x, "giver behind the last", () -> x.giver(persons.length));
    }

    private static void given() {
        BoughtMondays x = Checks.made("person 90 0;person 90 0;person 90 0;duty 3;duty 3;duty 5;"
                + "can 0 0;can 0 1;can 0 2;can 1 0;can 1 2;can 2 1;");
        givers(x, 11, 0, 2, 1);
        Checks.work(x, "buy 2;");
        givers(x, 8, 0, -1, 1);
        Checks.work(x, "buy 0;");
        givers(x, 5, -1, -1, 1);
        Checks.work(x, "buy 1;");
        givers(x, 0, -1, -1, -1);
        Checks.missing(x, "giver(-1)", () -> x.giver(-1));
        BoughtMondays y = Checks.made("person 0 0;duty 2;duty 2;can 0 0;can 0 1;");
        givers(y, 2, 0, -1);
        givers(Checks.made("person 0 0;person 0 0;duty 1;duty 1;can 0 0;can 1 0;can 0 1;can 1 1;"), 2, 0, 1);
        Checks.town(y, "person 0 0;duty 2;can 0 0;");
        givers(y, 2, 0);
        givers(Checks.made("person 0 0;"), 0);
        givers(Checks.made("duty 30;"), 0, -1);
        StringBuilder all = new StringBuilder();
        for (int i = 0; i < 6; i++) {
            all.append("person 0 0;duty ").append(i + 1).append(';');
        }
        for (int p = 0; p < 6; p++) {
            for (int d = 0; d < 6; d++) {
                all.append("can ").append(p).append(' ').append(5 - d).append(';');
            }
        }
        givers(Checks.made(all.toString()), 21, 0, 1, 2, 3, 4, 5);
    }

    private static void skip(BoughtMondays x, int person, int n, int set) {
        Checks.due("skips(" + person + ", " + n + ", 0)", x.skips(person, n, 0), Integer.bitCount(set));
        Checks.due("skips(" + person + ", " + n + ", 1)", x.skips(person, n, 1), set);
    }

    private static void skips() {
        BoughtMondays x = Checks.made("person 12 4;person 0 10;person 11 0;duty 1;can 0 0;task 0 1 0;task 1 0 0;");
        skip(x, 0, 0, 0);
        skip(x, 0, 1, 1);
        // the first costs 5 of 12; 11 then, and 6; 5 then, less than 7; 9
        skip(x, 0, 5, 1 + 4 + 16);
        // it has 10 on the second Monday, or 20 on the third: of alike sets the least
        skip(x, 1, 3, 2);
        skip(x, 2, 10, 3);
        Checks.work(x, "buy 0;buy 2;");
        Checks.due("what person 2 paid", x.person(2, 5), 8);
        skip(x, 0, 1, 1);
        skip(x, 2, 10, 0);
        Checks.due("who bought is as it was", x.told(4), 5);
        Checks.law(x, "sold * 50 + needed * 3 + tasks * 50");
        skip(x, 0, 4, 1 + 4 + 8);
        skip(x, 2, 10, 1023);
        Checks.law(x, "week * 2 + 1");
        skip(x, 2, 4, 1);
        Checks.law(x, "7 - week");
        skip(x, 2, 10, 128 + 256 + 512 + 64 + 32);
        Checks.law(x, "0");
        skip(x, 0, 10, 1023 - 2);
        Checks.work(x, "sell 0;week;week;");
        skip(x, 0, 10, 1023);
        Checks.missing(x, "skips(3, 11, 2)", () -> x.skips(3, 11, 2));
        Checks.missing(x, "skips(-1, 0, 0)", () -> x.skips(-1, 0, 0));
        Checks.argument(x, "skips(0, 11, 0)", () -> x.skips(0, 11, 0));
        Checks.argument(x, "skips(0, -1, 0)", () -> x.skips(0, -1, 0));
        Checks.argument(x, "skips(0, 0, 2)", () -> x.skips(0, 0, 2));
        Checks.argument(x, "skips(0, 0, -1)", () -> x.skips(0, 0, -1));
        BoughtMondays y = Checks.made("person 500 30;");
        Checks.work(y, "again 20[week;];");
        Checks.law(y, "most[0, 1000 / 10 - 1]");
        Checks.due("a number that is none", y.fault(), 8);
        Checks.law(y, "99");
        // 999 and no more: ten cost 990
        skip(y, 0, 10, 1023);
        Checks.law(y, "coins * 0 + 98 + coins / 999");
        Checks.due("999 coins", y.price(0), 99);
        skip(y, 0, 2, 3);
        BoughtMondays z = Checks.made("person 10 0;person 0 0;duty 1;duty 1;can 0 0;can 1 0;can 0 1;");
        // the prices are 8, 5, 5, 2: the second and third, or the first and fourth
        Checks.law(z, "8 - (week + 1) / 2 * 3");
        skip(z, 0, 4, 6);
        Checks.law(z, "needed * 3");
        skip(z, 0, 5, 7);
        skip(z, 1, 5, 31);
    }

    private static void apart() {
        BoughtMondays x = Checks.made("person 0 0;person 0 0;person 0 0;person 0 0;");
        Checks.due("without a book", x.apart(0, 1, 0), -1);
        Checks.book(x, "0 127;1 127;2 0;");
        // seven of twenty, seven of the other thirteen: 77,520 times 1,716
        Checks.due("20 weeks", x.apart(0, 1, 20), 133024320);
        Checks.due("days that nobody lived", x.apart(0, 1, 18), 0);
        Checks.due("too few days", x.apart(0, 2, 20), 0);
        Checks.due("in no line", x.apart(0, 3, 20), -1);
        Checks.due("in no line", x.apart(3, 0, 20), -1);
        Checks.book(x, "0 0;1 0;2 1;3 7;");
        Checks.due("no weeks", x.apart(0, 1, 0), 1);
        Checks.due("no weeks, a day", x.apart(0, 2, 0), 0);
        Checks.due("no weeks, a day", x.apart(2, 0, 0), 0);
        Checks.book(x, "0 140;1 120;2 121;3 139;");
        Checks.due("all and none", x.apart(0, 1, 20), 1);
        Checks.due("all and one", x.apart(0, 2, 20), 0);
        Checks.due("nineteen and one", x.apart(3, 2, 20), 20);
        Checks.missing(x, "apart(4, 4, 99)", () -> x.apart(4, 4, 99));
        Checks.missing(x, "apart(0, 4, 0)", () -> x.apart(0, 4, 0));
        Checks.missing(x, "apart(-1, 0, 0)", () -> x.apart(-1, 0, 0));
        Checks.argument(x, "apart(1, 1, 0)", () -> x.apart(1, 1, 0));
        Checks.argument(x, "apart(0, 1, 21)", () -> x.apart(0, 1, 21));
        Checks.argument(x, "apart(0, 1, -1)", () -> x.apart(0, 1, -1));
    }

    private static void together() {
        BoughtMondays x = Checks.made("person 0 0;person 0 0;person 0 0;person 0 0;");
        Checks.due("without a book", x.together(0, 1, 0), -1);
        Checks.book(x, "0 66;1 67;2 70;");
        Checks.due("six and seven of ten", x.together(0, 1, 10), 3);
        Checks.due("all of ten", x.together(2, 0, 10), 6);
        Checks.due("none and one of eleven", x.together(0, 1, 11), 0);
        Checks.due("too many days", x.together(0, 2, 9), -1);
        Checks.due("too few days", x.together(2, 0, 12), -1);
        Checks.due("none and four of eleven", x.together(0, 2, 11), 0);
        Checks.due("in no line", x.together(0, 3, 10), -1);
        Checks.book(x, "0 60;1 71;2 59;3 70;");
        Checks.due("one day too many", x.together(0, 1, 10), -1);
        Checks.due("one day too many of the first", x.together(1, 0, 10), -1);
        Checks.due("one day too few", x.together(3, 2, 10), -1);
        Checks.due("one day too few of the first", x.together(2, 3, 10), -1);
        Checks.due("none and all", x.together(0, 3, 10), 0);
        Checks.missing(x, "together(4, 4, 99)", () -> x.together(4, 4, 99));
        Checks.missing(x, "together(0, -1, 0)", () -> x.together(0, -1, 0));
        Checks.argument(x, "together(1, 1, 0)", () -> x.together(1, 1, 0));
        Checks.argument(x, "together(0, 1, 21)", () -> x.together(0, 1, 21));
        Checks.argument(x, "together(0, 1, -1)", () -> x.together(0, 1, -1));
    }

    private static void met() {
        BoughtMondays x = new BoughtMondays();
        long[][] due = {{0, 16, 0, 1}, {7, 0, 0, 1}, {7, 16, 1, 1}, {1, 4, 1, 16}, {1, 12, 9, 16},
            {2, 4, 31, 256}, {3, 8, 37, 64}, {1, 1, 1, 256}, {7, 8, 14197, 16384}};
        for (long[] d : due) {
            Checks.due("met(" + d[0] + ", " + d[1] + ", 0)", x.met((int) d[0], (int) d[1], 0), d[2]);
            Checks.due("met(" + d[0] + ", " + d[1] + ", 1)", x.met((int) d[0], (int) d[1], 1), d[3]);
        }
        Checks.due("met(7, 15, 1)", x.met(7, 15, 1), 1L << 56);
        Checks.argument(x, "met(8, 0, 0)", () -> x.met(8, 0, 0));
        Checks.argument(x, "met(-1, 0, 0)", () -> x.met(-1, 0, 0));
        Checks.argument(x, "met(0, 17, 0)", () -> x.met(0, 17, 0));
        Checks.argument(x, "met(0, -1, 0)", () -> x.met(0, -1, 0));
        Checks.argument(x, "met(0, 0, 2)", () -> x.met(0, 0, 2));
        Checks.argument(x, "met(0, 0, -1)", () -> x.met(0, 0, -1));
    }

    private static void open() {
        BoughtMondays x = new BoughtMondays();
        int[][] due = {{0, 0, 2, 0, 0}, {99, 0, 2, 0, 198}, {0, 1, 1, 0, 0}, {7, 99, 1, 0, 14}, {1, 1, 1, 0, 2}};
        for (int[] d : due) {
            for (int what = 0; what < 3; what++) {
                Checks.due("open(" + d[0] + ", " + d[1] + ", " + what + ")", x.open(d[0], d[1], what), d[2 + what]);
            }
        }
        Checks.argument(x, "open(100, 0, 0)", () -> x.open(100, 0, 0));
        Checks.argument(x, "open(-1, 0, 0)", () -> x.open(-1, 0, 0));
        Checks.argument(x, "open(0, 100, 0)", () -> x.open(0, 100, 0));
        Checks.argument(x, "open(0, -1, 0)", () -> x.open(0, -1, 0));
        Checks.argument(x, "open(0, 0, 3)", () -> x.open(0, 0, 3));
        Checks.argument(x, "open(0, 0, -1)", () -> x.open(0, 0, -1));
    }

    private static void share() {
        BoughtMondays x = Checks.made("person 99 0;person 99 0;person 99 0;");
        Checks.law(x, "0");
        Checks.work(x, "buy 0;again 7[week;buy 0;buy 1;];week;");
        // days 48, 7 + 42, 56
        Checks.due("days of 0", x.person(0, 2), 48);
        Checks.due("days of 1", x.person(1, 2), 49);
        Checks.due("days of 2", x.person(2, 2), 56);
        int[][] due = {{0, 7, 0, 0}, {0, 7, 2, 0}, {2, 7, 3, 1}, {1, 7, 145, 48}, {1, 7, 146, 49}, {2, 7, 146, 49},
            {2, 7, 145, 48}, {2, 7, 147, 50}, {2, 7, 152, 55}, {2, 7, 153, 56}, {2, 7, 9999, 56}, {0, 7, 9999, 48},
            {2, 4, 30, 30}, {0, 4, 30, 0}, {0, 0, 9999, 0}, {1, 3, 11, 5}};
        for (int[] d : due) {
            Checks.due("share(" + d[0] + ", " + d[1] + ", " + d[2] + ")", x.share(d[0], d[1], d[2]), d[3]);
        }
        Checks.missing(x, "share(3, 99, -1)", () -> x.share(3, 99, -1));
        Checks.missing(x, "share(-1, 0, 0)", () -> x.share(-1, 0, 0));
        Checks.argument(x, "share(0, 8, 0)", () -> x.share(0, 8, 0));
        Checks.argument(x, "share(0, -1, 0)", () -> x.share(0, -1, 0));
        Checks.argument(x, "share(0, 0, 10000)", () -> x.share(0, 0, 10000));
        Checks.argument(x, "share(0, 0, -1)", () -> x.share(0, 0, -1));
    }

    private static void youngest() {
        BoughtMondays x = Checks.made("person 99 0;person 99 0;person 99 0;");
        Checks.due("the first", x.youngest(0), 0);
        Checks.due("no days", x.youngest(1), 0);
        Checks.work(x, "buy 2;week;");
        Checks.due("youngest(0)", x.youngest(0), 2);
        Checks.due("youngest(1)", x.youngest(1), 6);
        Checks.work(x, "buy 1;week;");
        Checks.due("of alike ones the first", x.youngest(0), 1);
        Checks.due("youngest(1)", x.youngest(1), 13);
        Checks.argument(x, "youngest(2)", () -> x.youngest(2));
        Checks.argument(x, "youngest(-1)", () -> x.youngest(-1));
        BoughtMondays y = new BoughtMondays();
        Checks.due("nobody", y.youngest(0), -1);
        Checks.due("nobody", y.youngest(1), -1);
    }

    private static void next() {
        BoughtMondays x = Checks.made("person 90 0;person 0 0;task 0 4 1;task 0 2 1;task 0 2 1;task 1 1 1;task 0 0 1;");
        int[][] due = {{4, 0}, {1, 1}, {1, 0}, {0, 1}, {0, 0}, {-1, -1}};
        for (int week = 0; week < due.length; week++) {
            Checks.due("next(0, 0) in week " + week, x.next(0, 0), due[week][0]);
            Checks.due("next(0, 1) in week " + week, x.next(0, 1), due[week][1]);
            Checks.work(x, week == 2 ? "buy 0;week;" : "week;");
        }
        Checks.due("done", x.next(1, 0), -1);
        Checks.missing(x, "next(2, 2)", () -> x.next(2, 2));
        Checks.missing(x, "next(-1, 0)", () -> x.next(-1, 0));
        Checks.argument(x, "next(1, 2)", () -> x.next(1, 2));
        Checks.argument(x, "next(1, -1)", () -> x.next(1, -1));
    }

    private static void missed() {
        BoughtMondays x = Checks.made("person 90 0;person 90 0;task 0 0 1;task 1 0 1;task 0 1 1;task 1 1 1;");
        Checks.work(x, "buy 0;");
        Checks.due("not yet", x.missed(), 0);
        Checks.work(x, "week;");
        Checks.due("missed()", x.missed(), 1);
        Checks.work(x, "buy 1;week;");
        Checks.due("missed()", x.missed(), 9);
    }

    private static void due() {
        BoughtMondays x = Checks.made("person 20 0;person 90 0;task 0 0 9;task 0 0 9;task 1 0 4;task 0 1 50;task 1 0 60;");
        Checks.due("nobody bought", x.due(), 0);
        Checks.work(x, "buy 0;");
        Checks.due("as coins last", x.due(), 15);
        Checks.work(x, "buy 1;");
        Checks.due("both", x.due(), 15 + 64);
        Checks.due("nothing is paid", x.person(0, 6), 0);
        Checks.due("coins stay", x.person(0, 0), 15);
        Checks.work(x, "later 0;");
        Checks.due("put off", x.due(), 9 + 64);
        Checks.work(x, "week;");
        Checks.due("next Monday", x.due(), 0);
    }

    private static void lone() {
        BoughtMondays x = Checks.made("person 9 0;person 9 0;duty 1;duty 1;duty 1;duty 1;can 0 0;can 1 1;can 0 1;can 1 3;");
        Checks.due("lone()", x.lone(), 9);
        Checks.work(x, "buy 0;");
        Checks.due("bought off or not", x.lone(), 9);
        Checks.due("nobody", Checks.made("duty 1;").lone(), 0);
    }

    private static void debt() {
        BoughtMondays x = Checks.made("person 90 0;person 90 0;task 0 0 1;task 0 1 2;task 0 2 4;task 1 0 8;task 0 60 16;");
        Checks.due("all", x.debt(0), 23);
        Checks.due("of the other one", x.debt(1), 8);
        Checks.work(x, "week;");
        Checks.due("one is done", x.debt(0), 22);
        Checks.work(x, "buy 0;");
        Checks.due("this Monday counts", x.debt(0), 22);
        Checks.work(x, "week;");
        Checks.due("one lies behind", x.debt(0), 20);
        Checks.missing(x, "debt(2)", () -> x.debt(2));
        Checks.missing(x, "debt(-1)", () -> x.debt(-1));
    }

    private static void spare() {
        BoughtMondays x = Checks.made("person 500 30;person 20 3;task 1 0 9;");
        Checks.due("now", x.spare(0, 0), 500);
        Checks.due("999 at most", x.spare(0, 99), 999);
        Checks.due("just below", x.spare(0, 16), 980);
        Checks.due("just above", x.spare(0, 17), 999);
        Checks.work(x, "buy 1;");
        Checks.due("what was paid is gone", x.spare(1, 0), 15);
        Checks.due("this Monday is had", x.spare(1, 99), 15 + 297);
        Checks.missing(x, "spare(2, 100)", () -> x.spare(2, 100));
        Checks.missing(x, "spare(-1, 0)", () -> x.spare(-1, 0));
        Checks.argument(x, "spare(0, 100)", () -> x.spare(0, 100));
        Checks.argument(x, "spare(0, -1)", () -> x.spare(0, -1));
    }

    private static void cheapest() {
        BoughtMondays x = Checks.made("person 90 0;person 90 0;person 0 0;");
        Checks.due("the first", x.cheapest(0), 0);
        Checks.law(x, "least[9 - person, 8]");
        Checks.due("cheapest(0)", x.cheapest(0), 2);
        Checks.due("cheapest(1), coins or none", x.cheapest(1), 7);
        Checks.law(x, "9 - person - person % 2");
        Checks.due("of alike ones the first", x.cheapest(0), 1);
        Checks.work(x, "buy 1;");
        Checks.due("not who bought", x.cheapest(0), 2);
        Checks.due("cheapest(1)", x.cheapest(1), 7);
        Checks.law(x, "0");
        Checks.work(x, "buy 0;buy 2;");
        Checks.due("all have", x.cheapest(0), -1);
        Checks.due("all have", x.cheapest(1), -1);
        Checks.due("nobody", new BoughtMondays().cheapest(0), -1);
        Checks.argument(x, "cheapest(2)", () -> x.cheapest(2));
        Checks.argument(x, "cheapest(-1)", () -> x.cheapest(-1));
    }

    private static void crowd() {
        BoughtMondays x = Checks.made("person 90 0;person 0 0;task 0 60 1;task 1 60 1;task 0 0 1;task 1 0 1;task 0 0 1;");
        Checks.due("crowd(0)", x.crowd(0), 0);
        Checks.due("crowd(1)", x.crowd(1), 3);
        Checks.work(x, "buy 0;week;");
        Checks.due("those that lie behind too, the least Monday", x.crowd(0), 0);
        Checks.due("crowd(1)", x.crowd(1), 2);
        x.undo();
        Checks.work(x, "week;");
        Checks.due("those of Monday 0 are done", x.crowd(0), 60);
        Checks.due("crowd(1)", x.crowd(1), 2);
        Checks.work(x, "again 60[week;];");
        Checks.due("all are done", x.crowd(0), -1);
        Checks.due("all are done", x.crowd(1), -1);
        BoughtMondays y = Checks.made("person 0 0;task 0 7 1;");
        Checks.due("one task", y.crowd(0), 7);
        Checks.due("one task", y.crowd(1), 1);
        Checks.argument(x, "crowd(2)", () -> x.crowd(2));
        Checks.argument(x, "crowd(-1)", () -> x.crowd(-1));
    }

    private static void rush() {
        BoughtMondays x = Checks.made("person 5 0;person 7 0;person 8 0;person 10 0;person 11 0;");
        Checks.due("one behind the other", x.rush(), 1 + 4 + 16);
        Checks.due("nothing is bought", x.told(4), 0);
        Checks.work(x, "buy 4;");
        Checks.due("with who has", x.rush(), 16 + 4);
        Checks.due("nobody", new BoughtMondays().rush(), 0);
    }

    private static void clear() {
        BoughtMondays x = Checks.made("person 90 0;person 0 0;task 0 1 1;task 0 20 1;task 1 2 1;task 0 0 1;");
        Checks.due("no Mondays", x.clear(0, 0), 0);
        Checks.due("this one", x.clear(0, 1), 0);
        Checks.due("three", x.clear(0, 3), 4);
        Checks.due("twenty", x.clear(0, 20), (1 << 20) - 1 - 3);
        Checks.due("of the other one", x.clear(1, 4), 11);
        Checks.work(x, "week;");
        Checks.due("a week on", x.clear(0, 20), (1 << 20) - 1 - 1 - (1 << 19));
        Checks.missing(x, "clear(2, 21)", () -> x.clear(2, 21));
        Checks.missing(x, "clear(-1, 0)", () -> x.clear(-1, 0));
        Checks.argument(x, "clear(0, 21)", () -> x.clear(0, 21));
        Checks.argument(x, "clear(0, -1)", () -> x.clear(0, -1));
    }

    private static void richest() {
        BoughtMondays x = Checks.made("person 7 0;person 9 0;person 9 0;");
        Checks.due("of alike ones the first", x.richest(0), 1);
        Checks.due("richest(1)", x.richest(1), 9);
        Checks.work(x, "buy 1;");
        Checks.due("richest(0)", x.richest(0), 2);
        Checks.work(x, "buy 2;");
        Checks.due("richest(0)", x.richest(0), 0);
        Checks.due("richest(1)", x.richest(1), 7);
        Checks.argument(x, "richest(2)", () -> x.richest(2));
        Checks.argument(x, "richest(-1)", () -> x.richest(-1));
        BoughtMondays y = new BoughtMondays();
        Checks.due("nobody", y.richest(0), -1);
        Checks.due("nobody", y.richest(1), -1);
    }

    private static void back() {
        BoughtMondays x = Checks.made("person 90 0;person 90 0;");
        Checks.due("not bought", x.back(0), -1);
        Checks.work(x, "buy 0;buy 1;");
        Checks.due("half, cut", x.back(0), 2);
        Checks.due("half", x.back(1), 4);
        Checks.due("nothing is sold", x.told(4), 3);
        Checks.missing(x, "back(2)", () -> x.back(2));
        Checks.missing(x, "back(-1)", () -> x.back(-1));
    }

    private static void loses() {
        BoughtMondays x = Checks.made("person 90 0;person 90 0;duty 3;duty 5;duty 9;can 0 0;can 1 1;");
        Checks.due("no weeks", x.loses(0), 0);
        Checks.due("99 weeks", x.loses(99), 891);
        Checks.work(x, "week;buy 1;");
        Checks.due("this Monday is bought off", x.loses(1), 14);
        Checks.due("the next ones are not", x.loses(3), 32);
        Checks.due("nothing is lost by asking", x.told(6), 9);
        Checks.argument(x, "loses(100)", () -> x.loses(100));
        Checks.argument(x, "loses(-1)", () -> x.loses(-1));
    }

    private static void year() {
        BoughtMondays x = Checks.made("person 50 2;person 50 0;duty 7;can 1 0;task 0 1 3;task 1 0 4;");
        // by seed 1 the draws are 16838, 5758, 10113, 17515, 31051, 5627, 23010, 7419
        // week 0: buy, person 0 by 14, sell, person 1 by 11; week 1: buy, person 1 by 11, sell, person 0 by 11
        int[][] due = {
            {1, 1, 15, 0, 95, 13, 0, 1, 2},
            {1, 1, 14, 0, 102, 14, 0, 0, 2},
            {1, 2, 16, 0, 92, 26, 7, 2, 3},
            {1, 2, 12, 12, 99, 27, 7, 1, 3}};
        for (int[] d : due) {
            for (int what = 0; what < 5; what++) {
                Checks.due("year(" + d[0] + ", " + d[1] + ", " + d[2] + ", " + d[3] + ", " + what + ")",
                        x.year(d[0], d[1], d[2], d[3], what), d[4 + what]);
            }
        }
        Checks.due("nothing is changed", x.told(3), 0);
        Checks.work(x, "buy 0;week;buy 1;");
        Checks.due("lost in it alone, this Monday being bought off", x.year(0, 1, 0, 0, 2), 7);
        Checks.due("sold back", x.year(1, 1, 0, 12, 2), 0);
        Checks.argument(x, "year(0, 0, 0, 0, 0)", () -> x.year(0, 0, 0, 0, 0));
        Checks.argument(x, "year(0, 97, 0, 0, 0)", () -> x.year(0, 97, 0, 0, 0));
        Checks.argument(x, "year(0, 1, 17, 0, 0)", () -> x.year(0, 1, 17, 0, 0));
        Checks.argument(x, "year(0, 1, -1, 0, 0)", () -> x.year(0, 1, -1, 0, 0));
        Checks.argument(x, "year(0, 1, 0, 17, 0)", () -> x.year(0, 1, 0, 17, 0));
        Checks.argument(x, "year(0, 1, 0, -1, 0)", () -> x.year(0, 1, 0, -1, 0));
        Checks.argument(x, "year(0, 1, 0, 0, 5)", () -> x.year(0, 1, 0, 0, 5));
        Checks.argument(x, "year(0, 1, 0, 0, -1)", () -> x.year(0, 1, 0, 0, -1));
        BoughtMondays y = Checks.made("person 9 0;person 9 0;duty 3;");
        Checks.work(y, "buy 1;");
        // by seed 1 person 1 is drawn to sell, by 11
        Checks.due("11 is below 12", y.year(1, 1, 0, 12, 1), 14);
        Checks.due("11 is not below 11", y.year(1, 1, 0, 11, 1), 13);
        Checks.work(y, "week;");
        Checks.due("lost by now", y.told(6), 3);
        Checks.due("lost in it", y.year(1, 2, 0, 0, 2), 6);
        Checks.town(y, "duty 3;");
        Checks.law(y, "0");
        Checks.due("without persons weeks go by", y.year(1, 96, 16, 16, 2), 288);
        Checks.due("without persons nobody buys", y.year(1, 96, 16, 16, 3), 0);
    }

    private static void span() {
        BoughtMondays x = Checks.made("person 50 2;person 50 0;duty 7;can 1 0;task 0 1 3;task 1 0 4;");
        for (int seed : new int[] {1, 77, -5, Integer.MAX_VALUE - 3}) {
            int least = 99999;
            int most = 0;
            int done = 0;
            for (int i = 0; i < 20; i++) {
                int lost = x.year(seed + i, 9, 12, 3, 2);
                least = Math.min(least, lost);
                most = Math.max(most, lost);
                done += x.year(seed + i, 9, 12, 3, 4) >> 1 & 1;
            }
            Checks.due("span least", x.span(seed, 20, 9, 12, 3, 0, 1), least);
            Checks.due("span most", x.span(seed, 20, 9, 12, 3, 1, 0), most);
            Checks.due("span done", x.span(seed, 20, 9, 12, 3, 2, 1), done);
            Checks.due("span of one", x.span(seed, 1, 9, 12, 3, 1, 0), x.year(seed, 9, 12, 3, 2));
        }
        Checks.due("span of none lost", x.span(1, 3, 4, 0, 0, 1, 0), 0);
        BoughtMondays y = Checks.made("person 0 0;duty 3;task 0 0 0;");
        Checks.work(y, "week;");
        Checks.due("span of one, the least", y.span(1, 1, 2, 0, 0, 0, 0), 6);
        Checks.due("span of one, the most", y.span(1, 1, 2, 0, 0, 1, 0), 6);
        for (int what = 0; what <= 2; what++) {
            int w = what;
            Checks.argument(x, "span of no task", () -> x.span(1, 1, 1, 0, 0, w, 2));
            Checks.argument(x, "span of no task", () -> x.span(1, 1, 1, 0, 0, w, -1));
        }
        Checks.argument(x, "span of no seeds", () -> x.span(1, 0, 1, 0, 0, 0, 0));
        Checks.argument(x, "span of 21 seeds", () -> x.span(1, 21, 1, 0, 0, 0, 0));
        Checks.argument(x, "span of no weeks", () -> x.span(1, 1, 0, 0, 0, 0, 0));
        Checks.argument(x, "span of 97 weeks", () -> x.span(1, 1, 97, 0, 0, 0, 0));
        Checks.argument(x, "span, q", () -> x.span(1, 1, 1, 17, 0, 0, 0));
        Checks.argument(x, "span, r", () -> x.span(1, 1, 1, 0, 17, 0, 0));
        Checks.argument(x, "span, what", () -> x.span(1, 1, 1, 0, 0, 3, 0));
        Checks.argument(x, "span, what", () -> x.span(1, 1, 1, 0, 0, -1, 0));
    }
}
