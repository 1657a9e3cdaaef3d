import java.math.BigInteger;

/** The edges of what is asked of persons, duties and tasks: Terms 3, promises 16 to 42. */
final class AskedEdges {
    private static final int LAST_PERSON = RefusalEdges.PERSONS - 1;
    private static final int LAST_DUTY = RefusalEdges.DUTIES - 1;

    private AskedEdges() {
    }

    static void run() {
        asked();
        ahead();
        left();
        stay();
        given();
        giver();
        apart();
        together();
        met();
        open();
        shares();
        youngest();
        next();
        missed();
        due();
        lone();
        debt();
        spare();
        cheapest();
        crowd();
        rush();
        clear();
        richest();
        back();
        loses();
    }

    private static int[] row(int... values) {
        return values;
    }

    private static void asked() {
        Doc.terms("Asked, nothing stays changed; WEEKS go by as by week (beyond 300, too).");
        BoughtMondays x = Checks.made("person 0 1;person 50 0;duty 2;can 0 0;task 0 60 1;");
        Checks.pass(x, 299);
        Checks.work(x, "buy 1;");
        Checks.due("days, one week to 300", x.ahead(1, 1), 299 * 14 + 13);
        Checks.due("days, one week beyond", x.ahead(2, 1), 299 * 14 + 27);
        Checks.work(x, "week;");
        Checks.due("days from week 300 on", x.ahead(99, 1), 299 * 14 + 13 + 99 * 14);
        Checks.due("coins from week 300 on", x.ahead(99, 0), 300 + 45 + 99);
        Checks.due("coins to spare", x.spare(0, 99), 399);
        Checks.due("days of a year", x.year(1, 96, 0, 0, 1), 299 * 14 + 13 + 96 * 14);
        Checks.work(x, "buy 1;");
        Checks.due("nothing is lost, person 0 stays", x.loses(99), 0);
        Checks.due("the week is 300 still", x.told(3), 300);
        Checks.due("bought off still", x.told(4), 2);
        BoughtMondays y = Checks.made("duty 30;");
        Checks.pass(y, 300);
        Checks.due("worth that is lost beyond", y.loses(99), 2970);
        Checks.due("worth of a year", y.year(1, 96, 0, 0, 2), 2880);
        Checks.due("worth that was lost stays", y.told(6), 9000);
    }

    private static void ahead() {
        Doc.promise(16, "In n WEEKS (0 to 99), nothing else being done: 0 coins of all, 1 days lived by all, "
                + "2 TASKS that are done (bits).");
        BoughtMondays x = Checks.made("person 50 2;person 500 30;task 0 0 7;task 1 60 3;task 0 1 5;");
        Checks.work(x, "buy 0;");
        int[][] due = {{0, 545, 0, 0}, {1, 568, 13, 0}, {2, 600, 27, 4}, {60, 38 + 118 + 999, 13 + 59 * 14, 4},
            {61, 38 + 120 + 999, 13 + 60 * 14, 6}, {99, 38 + 196 + 999, 13 + 98 * 14, 6}};
        for (int[] d : due) {
            for (int what = 0; what < 3; what++) {
                Checks.due("ahead(" + d[0] + ", " + what + ")", x.ahead(d[0], what), d[1 + what]);
            }
        }
        BoughtMondays none = new BoughtMondays();
        for (int what = 0; what < 3; what++) {
            Checks.due("without persons", none.ahead(99, what), 0);
        }
        RefusalEdges.edges("ahead", "aa", row(1, 0), row(0, 0), row(99, 2));
    }

    private static void left() {
        Doc.terms("LEFT: DUTIES that nobody can do who has not bought off this MONDAY.");
        Doc.promise(17, "LEFT, as bits.");
        BoughtMondays x = Checks.made("person 90 0;person 90 0;duty 1;duty 1;duty 1;can 0 0;can 0 1;can 1 1;");
        Checks.due("nobody can", x.left(), 4);
        Checks.work(x, "buy 1;");
        Checks.due("without person 1", x.left(), 4);
        Checks.work(x, "buy 0;");
        Checks.due("all have bought off", x.left(), 7);
        Checks.work(x, "sell 1;");
        Checks.due("without person 0", x.left(), 5);
        Checks.work(x, "week;");
        Checks.due("the next Monday", x.left(), 4);
        Checks.due("without persons", Checks.made(Checks.times(6, "duty 1;")).left(), 63);
        Checks.due("without duties", Checks.made("person 0 0;").left(), 0);
        Checks.due("without both", new BoughtMondays().left(), 0);
        RefusalEdges.leavesAll("left()", y -> { }, y -> y.left(), 2);
    }

    private static void stay() {
        Doc.terms("STAY for told DUTIES (bits): the fewest PERSONS (bought off or not) of whom for each told one somebody "
                + "can do it, of as few the least bits; NONE.");
        String six = Checks.times(6, "person 90 0;");
        BoughtMondays x = Checks.made(six + "duty 1;duty 1;can 0 0;can 1 1;can 5 0;can 5 1;");
        Checks.due("the fewest", x.stay(3), 32);
        Checks.due("for one the least bits", x.stay(1), 1);
        Checks.due("for the other one", x.stay(2), 2);
        Checks.due("for none nobody", x.stay(0), 0);
        Checks.work(x, "buy 5;buy 0;");
        Checks.due("bought off or not", x.stay(3), 32);
        Checks.due("bought off or not", x.stay(1), 1);
        BoughtMondays y = Checks.made(six + "duty 1;duty 1;duty 1;can 3 0;can 1 0;can 2 1;can 4 1;can 5 0;");
        Checks.due("of as few the least bits", y.stay(3), 6);
        Checks.due("one that nobody can do", y.stay(4), -1);
        Checks.due("one of them that nobody can do", y.stay(7), -1);
        StringBuilder each = new StringBuilder(six);
        for (int d = 0; d < 6; d++) {
            each.append("duty 1;can ").append(5 - d).append(' ').append(d).append(';');
        }
        BoughtMondays z = Checks.made(each.toString());
        Checks.due("all six", z.stay(63), 63);
        Checks.due("the last", z.stay(32), 1);
        Checks.due("none of six", z.stay(0), 0);

        Doc.promise(18, "STAY, as bits. IllegalArgumentException: bits of no DUTIES.");
        Checks.argument(z, "stay(64)", () -> z.stay(64));
        Checks.argument(z, "stay(-1)", () -> z.stay(-1));
        Checks.argument(y, "stay(8)", () -> y.stay(8));
        Checks.argument(y, "stay(9)", () -> y.stay(9));
        BoughtMondays none = new BoughtMondays();
        Checks.due("stay(0) without duties", none.stay(0), 0);
        Checks.argument(none, "stay(1)", () -> none.stay(1));
        Checks.due("without persons", Checks.made("duty 1;").stay(1), -1);
        RefusalEdges.edges("stay", "a", row(1), row(0), row(3));
        for (int bit = 2; bit < 32; bit++) {
            RefusalEdges.refused("stay", row(1 << bit), false);
        }
    }

    private static void givers(BoughtMondays x, int worth, int... persons) {
        Checks.due("given()", x.given(), worth);
        for (int d = 0; d < persons.length; d++) {
            Checks.due("giver(" + d + ")", x.giver(d), persons[d]);
        }
    }

    private static void given() {
        Doc.terms("GIVEN: of all ways to give DUTIES to unlike PERSONS who have not bought off this MONDAY and can do them "
                + "that by which those given are worth most together");
        String three = Checks.times(3, "person 90 0;");
        BoughtMondays x = Checks.made(three + "duty 2;duty 3;duty 4;can 0 0;can 0 1;can 0 2;");
        givers(x, 4, -1, -1, 0);
        givers(Checks.made(three + "duty 9;duty 3;can 0 0;can 0 1;can 1 0;"), 12, 1, 0);
        givers(Checks.made(three + "duty 9;duty 3;can 0 0;can 0 1;can 1 1;"), 12, 0, 1);
        BoughtMondays y = Checks.made(three + "duty 5;duty 6;duty 7;can 0 0;can 1 1;can 2 2;can 0 1;can 1 2;");
        givers(y, 18, 0, 1, 2);
        Checks.work(y, "buy 2;");
        givers(y, 13, -1, 0, 1);
        Checks.work(y, "buy 0;");
        givers(y, 7, -1, -1, 1);
        Checks.work(y, "buy 1;");
        givers(y, 0, -1, -1, -1);
        Checks.work(y, "sell 0;");
        givers(y, 6, -1, 0, -1);

        Doc.terms("of these the first (DUTY by DUTY the least PERSON, given to none last).");
        givers(Checks.made(three + "duty 3;duty 3;can 0 0;can 0 1;"), 3, 0, -1);
        givers(Checks.made(three + "duty 3;duty 3;can 0 0;can 1 0;can 2 0;can 0 1;can 1 1;can 2 1;"), 6, 0, 1);
        givers(Checks.made(three + "duty 3;duty 3;can 2 0;can 1 0;can 0 1;can 1 1;"), 6, 1, 0);
        givers(Checks.made(three + "duty 3;duty 3;duty 3;can 2 0;can 1 0;can 2 1;can 1 2;"), 6, 1, 2, -1);
        StringBuilder all = new StringBuilder();
        for (int i = 0; i < 6; i++) {
            all.append("person 0 0;duty 30;");
        }
        for (int p = 0; p < 6; p++) {
            for (int d = 0; d < 6; d++) {
                all.append("can ").append(p).append(' ').append(d).append(';');
            }
        }
        givers(Checks.made(all.toString()), 180, 0, 1, 2, 3, 4, 5);
        givers(Checks.made(all.toString().replace("can 0 0;", "").replace("can 5 5;", "")), 180, 1, 0, 2, 3, 5, 4);

        Doc.promise(19, "GIVEN: the worth together.");
        Checks.due("without both", new BoughtMondays().given(), 0);
        Checks.due("without duties", Checks.made(three).given(), 0);
        Checks.due("without persons", Checks.made("duty 30;").given(), 0);
        Checks.due("nobody can", Checks.made(three + "duty 30;").given(), 0);
        RefusalEdges.leavesAll("given()", z -> { }, z -> z.given(), 10);
    }

    private static void giver() {
        Doc.promise(20, "The PERSON of a DUTY by GIVEN; NONE.");
        BoughtMondays x = Checks.made(Checks.times(6, "person 90 0;") + Checks.times(6, "duty 2;") + "can 5 5;can 4 5;");
        Checks.due("asked first, without given()", x.giver(5), 4);
        givers(x, 2, -1, -1, -1, -1, -1, 4);
        Checks.work(x, "buy 4;");
        Checks.due("asked first, one has bought off", x.giver(5), 5);
        givers(x, 2, -1, -1, -1, -1, -1, 5);
        Checks.missing(x, "giver(6)", () -> x.giver(6));
        RefusalEdges.edges("giver", "p", row(0), row(0), row(LAST_DUTY));
    }

    private static void apart() {
        Doc.terms("APART of two by BOOK and n: in n WEEKS one lives 6 days each, and 7 in those whose MONDAY one has: "
                + "in how many ways both can have had MONDAYS so that they lived as many days as the BOOK tells, "
                + "and never had one both (NONE: one of them is in no line).");
        // by counting all pairs of sets of at most eight Mondays
        for (int n = 0; n <= 8; n++) {
            for (int ones = 0; ones <= n; ones++) {
                for (int others = 0; others <= n; others++) {
                    BoughtMondays x = Checks.made("person 0 0;person 0 0;");
                    Checks.book(x, "0 " + (6 * n + ones) + ";1 " + (6 * n + others) + ";");
                    Checks.due("apart by " + ones + " and " + others + " of " + n, x.apart(0, 1, n), ways(n, ones, others));
                    Checks.due("together by " + ones + " and " + others + " of " + n, x.together(0, 1, n),
                            least(n, ones, others));
                }
            }
        }
        BoughtMondays x = Checks.made("person 0 0;person 0 0;person 0 0;");
        Checks.due("without a book", x.apart(0, 1, 0), -1);
        Checks.book(x, "0 0;");
        Checks.due("the other one in no line", x.apart(0, 1, 0), -1);
        Checks.due("the one in no line", x.apart(1, 0, 0), -1);
        Checks.due("both in no line", x.apart(1, 2, 0), -1);
        Checks.book(x, "0 127;1 127;2 126;");
        Checks.due("seven and seven of twenty", x.apart(0, 1, 20), 133024320);
        Checks.due("seven and six of twenty", x.apart(0, 2, 20), 133024320);
        Checks.due("one day too many", x.apart(0, 1, 18), 0);

        Doc.promise(22, "APART by n (0 to 20) of two PERSONS. IllegalArgumentException: also one PERSON (so TOGETHER).");
        Checks.book(x, "0 5;1 6;2 7;");
        Checks.due("5 days are too few for one week", x.apart(0, 1, 1), 0);
        Checks.due("6 and 7 days in one week", x.apart(1, 2, 1), 1);
        Checks.book(x, "0 6;1 7;2 8;");
        Checks.due("8 days are too many for one week", x.apart(0, 2, 1), 0);
        Checks.book(x, "0 0;1 0;2 1;");
        Checks.due("no weeks, no days", x.apart(0, 1, 0), 1);
        Checks.due("no weeks, a day", x.apart(0, 2, 0), 0);
        Checks.book(x, "0 140;1 120;2 121;");
        Checks.due("all and none of twenty", x.apart(0, 1, 20), 1);
        Checks.due("all and one of twenty", x.apart(0, 2, 20), 0);
        twoPersons("apart");
    }

    private static void twoPersons(String name) {
        int[] least = row(0, 0, 0);
        int[] most = row(LAST_PERSON, LAST_PERSON, 20);
        RefusalEdges.edge(name, "ppa", row(0, 1, 3), 0, least, most);
        RefusalEdges.edge(name, "ppa", row(1, 0, 3), 1, least, most);
        RefusalEdges.edge(name, "ppa", row(0, 1, 3), 2, least, most);
        for (int p = 0; p <= LAST_PERSON; p++) {
            RefusalEdges.refused(name, row(p, p, 3), false);
            RefusalEdges.refused(name, row(p, p, 21), false);
        }
        RefusalEdges.refused(name, row(-1, -1, 3), true);
        RefusalEdges.refused(name, row(3, 3, 21), true);
    }

    private static long ways(int n, int ones, int others) {
        long many = 0;
        for (int a = 0; a < 1 << n; a++) {
            for (int b = 0; b < 1 << n; b++) {
                if (Integer.bitCount(a) == ones && Integer.bitCount(b) == others && (a & b) == 0) {
                    many++;
                }
            }
        }
        return many;
    }

    private static long least(int n, int ones, int others) {
        int fewest = n;
        for (int a = 0; a < 1 << n; a++) {
            for (int b = 0; b < 1 << n; b++) {
                if (Integer.bitCount(a) == ones && Integer.bitCount(b) == others) {
                    fewest = Math.min(fewest, Integer.bitCount(a & b));
                }
            }
        }
        return fewest;
    }

    private static void together() {
        Doc.terms("TOGETHER: how many MONDAYS they had both at the least, living so many days (NONE likewise, "
                + "or if one can't have lived so many).");
        BoughtMondays x = Checks.made("person 0 0;person 0 0;person 0 0;");
        Checks.due("without a book", x.together(0, 1, 0), -1);
        Checks.book(x, "0 0;");
        Checks.due("the other one in no line", x.together(0, 1, 0), -1);
        Checks.due("the one in no line", x.together(1, 0, 0), -1);
        Checks.book(x, "0 65;1 65;2 66;");
        Checks.due("five and five of ten", x.together(0, 1, 10), 0);
        Checks.due("five and six of ten", x.together(0, 2, 10), 1);
        Checks.book(x, "0 59;1 60;2 70;");
        Checks.due("one day too few of the one", x.together(0, 1, 10), -1);
        Checks.due("one day too few of the other one", x.together(1, 0, 10), -1);
        Checks.due("none and all", x.together(1, 2, 10), 0);
        Checks.book(x, "0 71;1 60;2 70;");
        Checks.due("one day too many of the one", x.together(0, 2, 10), -1);
        Checks.due("one day too many of the other one", x.together(2, 0, 10), -1);

        Doc.promise(23, "TOGETHER by n (0 to 20).");
        Checks.book(x, "0 140;1 140;2 0;");
        Checks.due("all of twenty", x.together(0, 1, 20), 20);
        Checks.due("140 days in 19 weeks", x.together(0, 1, 19), -1);
        Checks.due("no weeks", x.together(0, 2, 0), -1);
        Checks.book(x, "0 0;1 0;");
        Checks.due("no weeks, no days", x.together(0, 1, 0), 0);
        Checks.due("no days in one week", x.together(0, 1, 1), -1);
        twoPersons("together");
    }

    private static void met() {
        Doc.terms("MET by n, q: each of two has a MONDAY by q of 16, each and each time by itself: "
                + "how likely they had one both in n WEEKS.");
        Doc.promise(24, "MET by n (0 to 7), q (0 to 16): above (part 0), below (part 1), in least terms.");
        BoughtMondays x = new BoughtMondays();
        for (int n = 0; n <= 7; n++) {
            for (int q = 0; q <= 16; q++) {
                BigInteger below = BigInteger.valueOf(256).pow(n);
                BigInteger above = below.subtract(BigInteger.valueOf(256 - q * q).pow(n));
                BigInteger common = above.gcd(below);
                Checks.due("met(" + n + ", " + q + ", 0)", x.met(n, q, 0), above.divide(common).longValueExact());
                Checks.due("met(" + n + ", " + q + ", 1)", x.met(n, q, 1), below.divide(common).longValueExact());
            }
        }
        Checks.due("no weeks, above", x.met(0, 16, 0), 0);
        Checks.due("no weeks, below", x.met(0, 16, 1), 1);
        Checks.due("never, above", x.met(7, 0, 0), 0);
        Checks.due("never, below", x.met(7, 0, 1), 1);
        Checks.due("always, above", x.met(7, 16, 0), 1);
        Checks.due("always, below", x.met(7, 16, 1), 1);
        Checks.due("by 1 of 16, above", x.met(1, 1, 0), 1);
        Checks.due("by 1 of 16, below", x.met(1, 1, 1), 256);
        RefusalEdges.edges("met", "aaa", row(1, 8, 0), row(0, 0, 0), row(7, 16, 1));
    }

    private static void open() {
        Doc.terms("OPEN by v, w: two shops stay open on MONDAY, or not: both: each has v; one alone: it has w; "
                + "who is shut has 0, and 1 less, if the other one is open; RESTS: neither would have more by the other thing.");
        for (int v = 0; v <= 99; v++) {
            BoughtMondays x = new BoughtMondays();
            for (int w = 0; w <= 99; w++) {
                openDue(x, v, w);
            }
        }

        Doc.promise(25, "OPEN by v, w (0 to 99): 0 how many RESTS, 1 the first (10 times what the one does, 0 open, 1 shut, "
                + "and the other one; NONE), 2 what both have by it together (0 without).");
        BoughtMondays x = new BoughtMondays();
        int[][] due = {{0, 0, 2, 0, 0}, {99, 0, 2, 0, 198}, {0, 1, 1, 0, 0}, {99, 99, 1, 0, 198}, {0, 99, 1, 0, 0}};
        for (int[] d : due) {
            for (int what = 0; what < 3; what++) {
                Checks.due("open(" + d[0] + ", " + d[1] + ", " + what + ")", x.open(d[0], d[1], what), d[2 + what]);
            }
        }
        RefusalEdges.edges("open", "aaa", row(5, 5, 0), row(0, 0, 0), row(99, 99, 2));
    }

    private static void openDue(BoughtMondays x, int v, int w) {
        // what one has, by what it does (0 open, 1 shut) and what the other one does
        int[][] has = {{v, w}, {-1, 0}};
        int rests = 0;
        int first = -1;
        int together = 0;
        for (int both = 0; both < 4; both++) {
            int one = both / 2;
            int other = both % 2;
            if (has[one][other] >= has[1 - one][other] && has[other][one] >= has[1 - other][one]) {
                rests++;
                if (first < 0) {
                    first = 10 * one + other;
                    together = has[one][other] + has[other][one];
                }
            }
        }
        Checks.due("open(" + v + ", " + w + ", 0)", x.open(v, w, 0), rests);
        Checks.due("open(" + v + ", " + w + ", 1)", x.open(v, w, 1), first);
        Checks.due("open(" + v + ", " + w + ", 2)", x.open(v, w, 2), together);
    }

    private static void shares() {
        Doc.terms("SHARES of n among told PERSONS (bits) by days lived: levelled: no more than that each, "
                + "no more than a bound, the greatest by which no more than n are given (all, if they are no more).");
        BoughtMondays x = Checks.made("person 500 0;person 500 0;person 500 0;");
        Checks.law(x, "0");
        Checks.work(x, "again 4[buy 0;week;];buy 1;week;week;week;");
        int[] days = {45, 48, 49};
        for (int p = 0; p < 3; p++) {
            Checks.due("days of person " + p, x.person(p, 2), days[p]);
        }
        for (int set = 1; set < 8; set++) {
            for (int n : new int[] {0, 1, 2, 3, 44, 45, 46, 47, 48, 49, 50, 89, 90, 91, 92, 93, 94, 95, 96, 97, 98,
                134, 135, 136, 137, 138, 139, 140, 141, 142, 143, 9999}) {
                shareDue(x, days, set, n);
            }
            // a new object for each set: one is used for at most 512 calls
            x = Checks.made("person 500 0;person 500 0;person 500 0;");
            Checks.law(x, "0");
            Checks.work(x, "again 4[buy 0;week;];buy 1;week;week;week;");
        }

        Doc.promise(26, "What a PERSON gets of n (0 to 9,999) by SHARES among told PERSONS (0, if it is none of them). "
                + "IllegalArgumentException: bits of no PERSONS.");
        BoughtMondays y = Checks.made(Checks.times(6, "person 0 0;"));
        Checks.due("no days lived", y.share(0, 63, 9999), 0);
        Checks.pass(y, 300);
        Checks.due("9,999 of 12,600", y.share(5, 63, 9999), 1666);
        Checks.due("9,995", y.share(5, 63, 9995), 1665);
        Checks.due("9,996", y.share(5, 63, 9996), 1666);
        Checks.due("n of 0", y.share(0, 63, 0), 0);
        Checks.due("one coin, alone", y.share(0, 1, 1), 1);
        Checks.due("one coin for two", y.share(0, 3, 1), 0);
        Checks.due("2,099 of 2,100", y.share(5, 32, 2099), 2099);
        Checks.due("all 2,100", y.share(5, 32, 2100), 2100);
        Checks.due("and no more", y.share(5, 32, 2101), 2100);
        Checks.due("none of them", y.share(5, 31, 9999), 0);
        Checks.due("nobody is told", y.share(5, 0, 9999), 0);
        Checks.argument(y, "share(0, 64, 0)", () -> y.share(0, 64, 0));
        RefusalEdges.edges("share", "paa", row(0, 7, 9), row(0, 0, 0), row(LAST_PERSON, 7, 9999));
        for (int bit = 3; bit < 32; bit++) {
            RefusalEdges.refused("share", row(0, 1 << bit, 9), false);
        }
    }

    private static void shareDue(BoughtMondays x, int[] days, int set, int n) {
        int bound = 0;
        for (int higher = 1; higher <= 49; higher++) {
            int sum = 0;
            for (int p = 0; p < 3; p++) {
                sum += (set >> p & 1) * Math.min(days[p], higher);
            }
            if (sum <= n) {
                bound = higher;
            }
        }
        for (int p = 0; p < 3; p++) {
            int due = (set >> p & 1) * Math.min(days[p], bound);
            Checks.due("share(" + p + ", " + set + ", " + n + ")", x.share(p, set, n), due);
        }
    }

    private static void youngest() {
        Doc.promise(27, "The PERSON of fewest days lived (what 0), of alike ones the first, how many (1); "
                + "NONE both: there are none.");
        BoughtMondays x = Checks.made("person 90 0;person 90 0;person 90 0;");
        pair("youngest, all alike", x.youngest(0), x.youngest(1), 0, 0);
        Checks.work(x, "buy 2;week;");
        pair("youngest, the last", x.youngest(0), x.youngest(1), 2, 6);
        Checks.work(x, "buy 1;week;");
        pair("youngest, two alike", x.youngest(0), x.youngest(1), 1, 13);
        Checks.work(x, "buy 0;week;");
        pair("youngest, three alike", x.youngest(0), x.youngest(1), 0, 20);
        BoughtMondays none = Checks.made("duty 1;");
        pair("youngest of nobody", none.youngest(0), none.youngest(1), -1, -1);
        RefusalEdges.edges("youngest", "a", row(0), row(0), row(1));
    }

    private static void pair(String call, int zero, int one, int dueZero, int dueOne) {
        Checks.due(call + ", what 0", zero, dueZero);
        Checks.due(call + ", what 1", one, dueOne);
    }

    private static void next() {
        Doc.promise(28, "The next TASK of a PERSON that is not done and does not lie behind, the one of the least MONDAY, "
                + "of alike ones the first (what 0), in how many WEEKS it falls (1); NONE both: there is none.");
        BoughtMondays x = Checks.made("person 90 0;person 90 0;person 90 0;"
                + "task 0 60 1;task 0 2 1;task 0 2 1;task 1 0 1;task 0 0 1;task 1 0 1;");
        pair("next of person 0", x.next(0, 0), x.next(0, 1), 4, 0);
        pair("next of person 1, two alike", x.next(1, 0), x.next(1, 1), 3, 0);
        pair("next of person 2, without tasks", x.next(2, 0), x.next(2, 1), -1, -1);
        Checks.work(x, "buy 1;week;");
        pair("next of person 0, one is done", x.next(0, 0), x.next(0, 1), 1, 1);
        pair("next of person 1, they lie behind", x.next(1, 0), x.next(1, 1), -1, -1);
        Checks.work(x, "later 1;");
        pair("next of person 0, one was put off", x.next(0, 0), x.next(0, 1), 2, 1);
        Checks.work(x, "week;buy 0;");
        pair("next of person 0, of this week", x.next(0, 0), x.next(0, 1), 2, 0);
        Checks.work(x, "week;");
        pair("next of person 0, one lies behind", x.next(0, 0), x.next(0, 1), 1, 0);
        Checks.work(x, "week;");
        pair("next of person 0, the last", x.next(0, 0), x.next(0, 1), 0, 56);
        Checks.work(x, "again 56[week;];");
        pair("next of person 0, of week 60", x.next(0, 0), x.next(0, 1), 0, 0);
        Checks.work(x, "week;");
        pair("next of person 0, all are done or lie behind", x.next(0, 0), x.next(0, 1), -1, -1);
        RefusalEdges.edges("next", "pa", row(0, 0), row(0, 0), row(LAST_PERSON, 1));
    }

    private static void missed() {
        Doc.promise(29, "TASKS (bits) that are not done and lie behind.");
        BoughtMondays x = Checks.made("person 500 0;" + Checks.times(6, "task 0 0 0;") + Checks.times(6, "task 0 1 0;"));
        Checks.due("none", x.missed(), 0);
        Checks.work(x, "buy 0;");
        Checks.due("those of this week do not lie behind", x.missed(), 0);
        Checks.work(x, "week;");
        Checks.due("six", x.missed(), 63);
        Checks.work(x, "week;");
        Checks.due("those that are done are not missed", x.missed(), 63);
        x.undo();
        Checks.work(x, "buy 0;week;");
        Checks.due("all twelve", x.missed(), 4095);
        Checks.due("without tasks", new BoughtMondays().missed(), 0);
        RefusalEdges.leavesAll("missed()", y -> { }, y -> y.missed(), 5);
    }

    private static void due() {
        Doc.promise(30, "FINES together that would be paid on this MONDAY, if all paid that have bought it off "
                + "(as coins last).");
        BoughtMondays x = Checks.made("person 17 0;person 90 0;task 0 0 7;task 0 0 5;task 1 0 60;task 0 1 9;task 1 1 8;");
        Checks.due("nobody has bought off", x.due(), 0);
        Checks.work(x, "buy 0;");
        Checks.due("coins last just so", x.due(), 12);
        Checks.work(x, "buy 1;");
        Checks.due("both", x.due(), 72);
        Checks.work(x, "later 1;");
        Checks.due("one was put off", x.due(), 67);
        Checks.work(x, "week;");
        Checks.due("paid", x.person(0, 6) + x.person(1, 6), 67);
        Checks.due("the next Monday", x.due(), 0);
        BoughtMondays y = Checks.made("person 16 0;person 5 0;task 0 0 7;task 0 0 5;task 1 0 60;");
        Checks.law(y, "5");
        Checks.work(y, "buy 0;buy 1;");
        Checks.due("one coin too few, and none", y.due(), 11);
        BoughtMondays full = Checks.made("person 500 0;" + Checks.times(12, "task 0 0 41;"));
        Checks.work(full, "buy 0;");
        Checks.due("twelve tasks", full.due(), 492);
        Checks.due("without persons", new BoughtMondays().due(), 0);
        RefusalEdges.leavesAll("due()", z -> { }, z -> z.due(), 0);
    }

    private static void lone() {
        Doc.promise(31, "DUTIES (bits) that just one PERSON can do.");
        BoughtMondays x = Checks.made("person 90 0;person 90 0;duty 1;duty 1;duty 1;can 0 0;can 0 1;can 1 1;");
        Checks.due("one, two and none", x.lone(), 1);
        Checks.work(x, "buy 1;");
        Checks.due("bought off or not", x.lone(), 1);
        BoughtMondays y = Checks.made("person 0 0;" + Checks.times(6, "duty 1;")
                + "can 0 0;can 0 1;can 0 2;can 0 3;can 0 4;can 0 5;");
        Checks.due("all six", y.lone(), 63);
        Checks.due("without persons", Checks.made("duty 1;").lone(), 0);
        Checks.due("without duties", new BoughtMondays().lone(), 0);
        RefusalEdges.leavesAll("lone()", z -> { }, z -> z.lone(), 0);
    }

    private static void debt() {
        Doc.promise(32, "FINES of all TASKS of a PERSON together that are not done and do not lie BEHIND.");
        BoughtMondays x = Checks.made("person 90 0;person 90 0;task 0 0 1;task 0 1 2;task 0 1 4;task 1 0 8;task 0 60 16;");
        Checks.due("all", x.debt(0), 23);
        Checks.due("of the other one", x.debt(1), 8);
        Checks.work(x, "week;");
        Checks.due("one is done", x.debt(0), 22);
        Checks.due("none is left", x.debt(1), 0);
        Checks.work(x, "later 1;buy 0;");
        Checks.due("those of this week count", x.debt(0), 22);
        Checks.work(x, "week;");
        Checks.due("one lies behind", x.debt(0), 18);
        BoughtMondays y = Checks.made("person 0 0;" + Checks.times(12, "task 0 60 60;"));
        Checks.due("more than coins", y.debt(0), 720);
        RefusalEdges.edges("debt", "p", row(0), row(0), row(LAST_PERSON));
    }

    private static void spare() {
        Doc.promise(33, "Coins a PERSON has in n WEEKS (0 to 99), having all MONDAYS from now on "
                + "(bought off or not: what was paid is gone).");
        BoughtMondays x = Checks.made("person 500 30;person 489 30;person 20 3;person 7 0;task 2 0 60;");
        Checks.due("now", x.spare(0, 0), 500);
        Checks.due("16 weeks", x.spare(0, 16), 980);
        Checks.due("17 weeks: 999 at most", x.spare(0, 17), 999);
        Checks.due("16 weeks", x.spare(1, 16), 969);
        Checks.due("17 weeks: 999 just so", x.spare(1, 17), 999);
        Checks.due("99 weeks", x.spare(0, 99), 999);
        Checks.due("no wage", x.spare(3, 99), 7);
        Checks.work(x, "buy 2;");
        Checks.due("what was paid is gone", x.spare(2, 0), 15);
        Checks.due("this Monday is had, no fine is paid", x.spare(2, 1), 18);
        Checks.due("99 weeks", x.spare(2, 99), 15 + 297);
        RefusalEdges.edges("spare", "pa", row(0, 1), row(0, 0), row(LAST_PERSON, 99));
    }

    private static void cheapest() {
        Doc.promise(34, "The PERSON of the least PRICE who has not bought off this MONDAY (what 0), of alike ones the first, "
                + "that PRICE (1); NONE both: all have.");
        BoughtMondays x = Checks.made("person 90 0;person 90 0;person 0 0;");
        pair("cheapest, all alike", x.cheapest(0), x.cheapest(1), 0, 5);
        Checks.law(x, "9 - person");
        pair("cheapest, the last, coins or not", x.cheapest(0), x.cheapest(1), 2, 7);
        Checks.law(x, "9 - person - person % 2");
        pair("cheapest, two alike", x.cheapest(0), x.cheapest(1), 1, 7);
        Checks.law(x, "person - 1");
        pair("cheapest, 0 at least", x.cheapest(0), x.cheapest(1), 0, 0);
        Checks.law(x, "99 + person");
        pair("cheapest, 99 at most", x.cheapest(0), x.cheapest(1), 0, 99);
        Checks.law(x, "0");
        Checks.work(x, "buy 0;");
        pair("cheapest, one has", x.cheapest(0), x.cheapest(1), 1, 0);
        Checks.work(x, "buy 1;buy 2;");
        pair("cheapest, all have", x.cheapest(0), x.cheapest(1), -1, -1);
        Checks.work(x, "week;");
        pair("cheapest, the next Monday", x.cheapest(0), x.cheapest(1), 0, 0);
        BoughtMondays none = new BoughtMondays();
        pair("cheapest of nobody", none.cheapest(0), none.cheapest(1), -1, -1);
        RefusalEdges.edges("cheapest", "a", row(0), row(0), row(1));
    }

    private static void crowd() {
        Doc.promise(35, "The MONDAY (0 to 60) on which most TASKS fall that are not done (what 0), of alike ones the least, "
                + "how many (1); NONE both: there are none.");
        BoughtMondays x = Checks.made("person 90 0;person 90 0;task 0 60 1;task 1 60 1;task 0 0 1;task 1 0 1;task 1 59 1;");
        pair("crowd, two alike", x.crowd(0), x.crowd(1), 0, 2);
        Checks.work(x, "later 4;");
        pair("crowd, on Monday 60", x.crowd(0), x.crowd(1), 60, 3);
        x.undo();
        Checks.work(x, "buy 0;buy 1;week;");
        pair("crowd, those that lie behind are not done", x.crowd(0), x.crowd(1), 0, 2);
        x.undo();
        Checks.work(x, "week;");
        pair("crowd, those of Monday 0 are done", x.crowd(0), x.crowd(1), 60, 2);
        Checks.work(x, "again 60[week;];");
        pair("crowd, all are done", x.crowd(0), x.crowd(1), -1, -1);
        BoughtMondays none = Checks.made("person 0 0;");
        pair("crowd without tasks", none.crowd(0), none.crowd(1), -1, -1);
        BoughtMondays one = Checks.made("person 0 0;task 0 7 0;");
        pair("crowd of one", one.crowd(0), one.crowd(1), 7, 1);
        BoughtMondays full = Checks.made("person 0 0;" + Checks.times(12, "task 0 60 0;"));
        pair("crowd of twelve", full.crowd(0), full.crowd(1), 60, 12);
        RefusalEdges.edges("crowd", "a", row(0), row(0), row(1));
    }

    private static void rush() {
        Doc.promise(36, "PERSONS (bits) who would have bought off this MONDAY, if each one did that could, by numbers, "
                + "one behind the other.");
        BoughtMondays x = Checks.made("person 5 0;person 7 0;person 8 0;person 10 0;person 11 0;person 14 0;");
        Checks.due("each raises the price by 3", x.rush(), 1 + 4 + 16 + 32);
        Checks.work(x, "buy 5;");
        Checks.due("one has, the price is higher from the first on", x.rush(), 32 + 4 + 16);
        Checks.law(x, "0");
        Checks.due("all", x.rush(), 63);
        Checks.law(x, "99");
        Checks.due("those alone who have", x.rush(), 32);
        Checks.law(x, "most[0, 11 - sold * 5]");
        Checks.due("each lowers the price by 5", x.rush(), 32 + 2 + 4 + 8 + 16);
        Checks.due("nobody", new BoughtMondays().rush(), 0);
        RefusalEdges.leavesAll("rush()", z -> { }, z -> z.rush(), 7);
    }

    private static void clear() {
        Doc.promise(37, "Of the next n MONDAYS (0 to 20; this one is the lowest bit) those on which no TASK of a PERSON "
                + "falls that is not done, as bits.");
        int all = (1 << 20) - 1;
        BoughtMondays x = Checks.made("person 90 0;person 90 0;task 0 0 1;task 0 19 1;task 0 20 1;task 1 3 1;task 0 1 1;");
        Checks.due("no Mondays", x.clear(0, 0), 0);
        Checks.due("this one alone", x.clear(0, 1), 0);
        Checks.due("this one alone, of the other one", x.clear(1, 1), 1);
        Checks.due("nineteen", x.clear(0, 19), all / 2 - 3);
        Checks.due("twenty", x.clear(0, 20), all - 3 - (1 << 19));
        Checks.due("twenty of the other one", x.clear(1, 20), all - 8);
        Checks.work(x, "later 4;week;");
        Checks.due("a week on", x.clear(0, 20), all - 2 - (1 << 18) - (1 << 19));
        Checks.work(x, "buy 0;week;buy 0;week;");
        Checks.due("those that lie behind do not count", x.clear(0, 20), all - (1 << 16) - (1 << 17));
        BoughtMondays y = Checks.made("person 0 0;task 0 60 1;");
        Checks.pass(y, 60);
        Checks.due("on Monday 60", y.clear(0, 20), all - 1);
        Checks.work(y, "week;");
        Checks.due("beyond Monday 60", y.clear(0, 20), all);
        RefusalEdges.edges("clear", "pa", row(0, 5), row(0, 0), row(LAST_PERSON, 20));
    }

    private static void richest() {
        Doc.promise(38, "The PERSON of most coins (what 0), of alike ones the first, how many (1); "
                + "NONE both: there are none.");
        BoughtMondays x = Checks.made("person 7 0;person 9 0;person 9 0;");
        pair("richest, two alike", x.richest(0), x.richest(1), 1, 9);
        Checks.work(x, "buy 1;");
        pair("richest, the last", x.richest(0), x.richest(1), 2, 9);
        Checks.work(x, "buy 2;");
        pair("richest, the first", x.richest(0), x.richest(1), 0, 7);
        BoughtMondays poor = Checks.made("person 0 0;person 0 0;");
        pair("richest without coins", poor.richest(0), poor.richest(1), 0, 0);
        BoughtMondays none = Checks.made("duty 1;");
        pair("richest of nobody", none.richest(0), none.richest(1), -1, -1);
        RefusalEdges.edges("richest", "a", row(0), row(0), row(1));
    }

    private static void back() {
        Doc.promise(39, "What a PERSON would have back by sell now; NONE: it could not be done.");
        int[][] due = {{0, 0}, {1, 0}, {2, 1}, {5, 2}, {99, 49}};
        for (int[] d : due) {
            BoughtMondays x = Checks.made("person 99 0;person 99 0;");
            Checks.law(x, "" + d[0]);
            Checks.due("not bought off", x.back(0), -1);
            Checks.work(x, "buy 0;");
            Checks.law(x, "50");
            Checks.due("half of " + d[0], x.back(0), d[1]);
            Checks.due("not bought off by the other one", x.back(1), -1);
            Checks.work(x, "sell 0;");
            Checks.due("sold back", x.back(0), -1);
        }
        BoughtMondays y = Checks.made("person 90 0;");
        Checks.work(y, "buy 0;week;");
        Checks.due("the Monday is over", y.back(0), -1);
        RefusalEdges.edges("back", "p", row(0), row(0), row(LAST_PERSON));
    }

    private static void loses() {
        Doc.promise(40, "Worth that is lost in the next n WEEKS (0 to 99), nothing else being done.");
        BoughtMondays x = Checks.made("person 90 0;person 90 0;duty 3;duty 5;duty 9;can 0 0;can 1 1;");
        Checks.due("no weeks", x.loses(0), 0);
        Checks.due("one week", x.loses(1), 9);
        Checks.due("99 weeks", x.loses(99), 891);
        Checks.work(x, "week;buy 1;");
        Checks.due("no weeks, what was lost by now is not asked", x.loses(0), 0);
        Checks.due("this Monday is bought off", x.loses(1), 14);
        Checks.due("the next ones are not", x.loses(99), 896);
        RefusalEdges.edges("loses", "a", row(1), row(0), row(99));
    }
}
