/** The edges of what WORK changes and how it is taken back: Terms 2, promises 8 to 12 and 43 to 46. */
final class LifeEdges {
    private LifeEdges() {
    }

    static void run() {
        beginning();
        order();
        twoHundred();
        buy();
        sell();
        later();
        lastWeek();
        whoStays();
        whoSkips();
        lost();
        nextWeek();
        undo();
        told();
        toldRefused();
        person();
        duty();
        task();
        image();
        restore();
        status();
        count();
    }

    private static void works(BoughtMondays x, String text, int done, int refused) {
        Checks.reads(x, "work", text, done, -1);
        Checks.due("steps refused of " + text, x.told(10), refused);
    }

    private static void beginning() {
        Doc.terms("It is WEEK 0 at first; MONDAY M is that of WEEK M.");
        BoughtMondays x = Checks.made("person 90 0;task 0 0 1;task 0 2 1;task 0 60 1;");
        Checks.due("the week", x.told(3), 0);
        int[] done = {0, 1, 1, 3, 3};
        for (int week = 0; week < done.length; week++) {
            Checks.due("the week", x.told(3), week);
            Checks.due("done by week " + week, x.told(5), done[week]);
            works(x, "week;", 1, 0);
        }
        Checks.pass(x, 55);
        Checks.due("the week", x.told(3), 60);
        Checks.due("Monday 60 is not over", x.told(5), 3);
        works(x, "week;", 1, 0);
        Checks.due("Monday 60 is over", x.told(5), 7);

        Doc.terms("All have lived 0 days, have bought off nothing, no TASK is done.");
        BoughtMondays y = Checks.made(Checks.times(6, "person 0 0;") + Checks.times(12, "task 5 0 0;"));
        for (int p = 0; p < 6; p++) {
            Checks.due("days", y.person(p, 2), 0);
            Checks.due("skipped", y.person(p, 3), 0);
            Checks.due("paid", y.person(p, 5), -1);
            Checks.due("fined", y.person(p, 6), 0);
        }
        for (int t = 0; t < 12; t++) {
            Checks.due("done", y.task(t, 3), 0);
        }
        Checks.due("bought off", y.told(4), 0);
        Checks.due("lost", y.told(6), 0);
    }

    private static void order() {
        Doc.terms("STEPS are done in order; one that can't be done is REFUSED, and changes nothing");
        String town = "person 12 4;task 0 0 2;task 0 3 2;";
        BoughtMondays x = Checks.made(town);
        works(x, "sell 0;buy 0;", 1, 1);
        Checks.due("bought off", x.told(4), 1);
        BoughtMondays y = Checks.made(town);
        works(y, "buy 0;sell 0;", 2, 0);
        Checks.due("sold back", y.told(4), 0);
        BoughtMondays z = Checks.made(town);
        works(z, "week;buy 0;", 2, 0);
        Checks.due("the week, then it is bought off", z.told(4), 1);
        Checks.due("coins", z.person(0, 0), 11);
        works(z, "buy 0;later 0;buy 0;", 0, 3);
        Checks.due("coins stay", z.person(0, 0), 11);
        Checks.due("paid stays", z.person(0, 5), 5);
        Checks.due("the Monday stays", z.task(0, 1), 0);
        Checks.due("the week stays", z.told(3), 1);
        works(z, "again 2[week;later 1;];", 4, 0);
        Checks.due("the Monday, put off twice", z.task(1, 1), 5);
        Checks.due("the week", z.told(3), 3);
    }

    private static void twoHundred() {
        Doc.terms("200 STEPS at most are begun by one WORK (an again, too, each time it is come to; REFUSED ones, too), "
                + "what would come behind is left out.");
        String town = "person 90 0;";
        works(Checks.made(town), "again 49[week;week;week;week;];week;week;week;", 199, 0);
        works(Checks.made(town), "again 49[week;week;week;week;];week;week;week;week;", 199, 0);
        works(Checks.made(town), "again 49[week;week;week;week;];week;week;week;sell 0;", 199, 0);
        works(Checks.made(town), "again 49[week;week;week;week;];week;week;sell 0;sell 0;", 198, 1);
        works(Checks.made(town), "again 50[week;week;week;week;];", 199, 0);
        // each again inside is one, each time
        works(Checks.made(town), "again 60[again 3[week;];];", 149, 0);
        works(Checks.made(town), "again 60[again 0[week;];again 0[];again 0[];week;];", 49, 0);
        works(Checks.made(town), "again 60[week;week;week;again 1[week;];];", 159, 0);
        works(Checks.made(town), "again 60[sell 0;sell 0;sell 0;week;];", 49, 150);
        works(Checks.made(town), "again 60[again 60[again 60[];];];week;sell 0;", 0, 0);
        works(Checks.made(town), "again 60[again 60[again 60[again 60[again 60[again 60[week;];];];];];];", 191, 0);
        BoughtMondays x = Checks.made(town);
        works(x, "again 60[week;week;week;];", 180, 0);
        works(x, "again 60[week;];", 60, 0);
        Checks.due("each work has 200 of its own", x.told(3), 240);
    }

    private static void buy() {
        Doc.terms("buy: P pays the PRICE and has bought off this MONDAY (REFUSED, if P has, or has fewer coins).");
        BoughtMondays x = Checks.made("person 5 0;person 8 0;person 10 0;person 500 0;");
        works(x, "buy 0;", 1, 0);
        Checks.due("all coins are paid", x.person(0, 0), 0);
        Checks.due("bought off", x.told(4), 1);
        works(x, "buy 1;", 1, 0);
        Checks.due("the price was higher by 3", x.person(1, 5), 8);
        works(x, "buy 2;", 0, 1);
        Checks.due("one coin too few", x.person(2, 0), 10);
        Checks.due("not bought off", x.person(2, 5), -1);
        works(x, "buy 3;buy 3;", 1, 1);
        Checks.due("paid once", x.person(3, 0), 500 - 11);
        Checks.due("bought off", x.told(4), 11);
        Checks.law(x, "0");
        works(x, "buy 3;buy 2;buy 2;", 1, 2);
        Checks.due("for nothing", x.person(2, 5), 0);
        Checks.due("coins stay", x.person(2, 0), 10);
        works(x, "week;buy 0;", 2, 0);
        Checks.due("the next Monday can be bought off again", x.told(4), 1);
    }

    private static void sell() {
        Doc.terms("sell: P has not bought it off any more, and has back half (cut) of what P paid (REFUSED, if P has not).");
        int[][] due = {{0, 0}, {1, 0}, {2, 1}, {3, 1}, {5, 2}, {98, 49}, {99, 49}};
        for (int[] d : due) {
            BoughtMondays x = Checks.made("person 99 0;person 99 0;");
            Checks.law(x, "" + d[0]);
            works(x, "sell 0;buy 0;sell 1;", 1, 2);
            Checks.due("paid", x.person(0, 5), d[0]);
            // what was paid counts, not what is the price by now
            Checks.law(x, "40");
            works(x, "sell 0;", 1, 0);
            Checks.due("half of " + d[0], x.person(0, 0), 99 - d[0] + d[1]);
            Checks.due("not bought off", x.told(4), 0);
            Checks.due("nothing paid", x.person(0, 5), -1);
            works(x, "sell 0;", 0, 1);
            Checks.due("once alone", x.person(0, 0), 99 - d[0] + d[1]);
            Checks.due("the other one stays as it was", x.person(1, 0), 99);
        }
        BoughtMondays y = Checks.made("person 90 2;");
        works(y, "buy 0;week;sell 0;", 2, 1);
        Checks.due("the Monday is over", y.person(0, 0), 85);
        works(y, "buy 0;sell 0;week;", 3, 0);
        Checks.due("who sold it back has had it", y.person(0, 2), 13);
        Checks.due("and has earned", y.person(0, 0), 85 - 3 + 2);
        Checks.due("and has skipped no more", y.person(0, 3), 1);
    }

    private static void later() {
        Doc.terms("later: TASK T falls one MONDAY later than it did (REFUSED, if it is done, lies BEHIND: its MONDAY is less "
                + "than the WEEK, or it falls on MONDAY 60).");
        BoughtMondays x = Checks.made("person 90 0;task 0 0 4;task 0 58 4;task 0 1 4;task 0 0 4;");
        works(x, "later 0;", 1, 0);
        Checks.due("one later, on this Monday", x.task(0, 1), 1);
        works(x, "later 1;later 1;later 1;", 2, 1);
        Checks.due("Monday 60 is the last", x.task(1, 1), 60);
        works(x, "week;later 3;", 1, 1);
        Checks.due("a task that is done", x.task(3, 1), 0);
        works(x, "buy 0;later 0;week;", 3, 0);
        Checks.due("put off in time", x.task(0, 1), 2);
        Checks.due("task 2 is missed", x.missed(), 4);
        works(x, "later 2;", 0, 1);
        Checks.due("a task that lies behind by one", x.task(2, 1), 1);
        works(x, "later 0;", 1, 0);
        Checks.due("a task of this week", x.task(0, 1), 3);
        works(x, "week;later 2;week;later 0;", 2, 2);
        Checks.due("done", x.task(0, 3), 1);
        Checks.pass(x, 56);
        Checks.due("the week", x.told(3), 60);
        works(x, "later 1;", 0, 1);
        works(x, "buy 0;week;later 1;", 2, 1);
        Checks.due("on Monday 60, behind", x.task(1, 1), 60);
        Checks.due("missed", x.missed(), 6);
    }

    private static void lastWeek() {
        Doc.terms("week (REFUSED in WEEK 300)");
        BoughtMondays x = Checks.made("person 500 1;duty 3;");
        Checks.pass(x, 299);
        Checks.due("the week", x.told(3), 299);
        works(x, "week;", 1, 0);
        Checks.due("the last week", x.told(3), 300);
        works(x, "buy 0;week;", 1, 1);
        Checks.due("the week stays", x.told(3), 300);
        Checks.due("bought off, still", x.told(4), 1);
        Checks.due("days stay", x.told(8), 2100);
        Checks.due("nothing more is lost", x.told(6), 900);
        Checks.due("coins", x.told(7), 795);
        works(x, "again 60[week;];sell 0;buy 0;", 2, 60);
        Checks.due("the week stays", x.told(3), 300);
    }

    private static void whoStays() {
        Doc.terms("who has not bought off this MONDAY stays: has lived 7 days more, earns the WAGE (999 coins at most), "
                + "has done all TASKS of this MONDAY");
        BoughtMondays x = Checks.made("person 500 30;person 489 30;person 7 0;person 488 30;"
                + "task 0 0 1;task 1 0 1;task 0 0 1;task 0 1 1;");
        works(x, "week;", 1, 0);
        Checks.due("days", x.person(0, 2), 7);
        Checks.due("coins", x.person(0, 0), 530);
        Checks.due("no wage", x.person(2, 0), 7);
        Checks.due("all of this Monday", x.told(5), 7);
        Checks.due("no fines", x.person(0, 6), 0);
        Checks.due("not skipped", x.person(0, 3), 0);
        Checks.pass(x, 15);
        Checks.due("16 weeks", x.person(0, 0), 980);
        works(x, "week;", 1, 0);
        Checks.due("999 at most", x.person(0, 0), 999);
        Checks.due("999 just so", x.person(1, 0), 999);
        Checks.due("998", x.person(3, 0), 998);
        works(x, "week;", 1, 0);
        Checks.due("999 still", x.person(0, 0), 999);
        Checks.due("999 still", x.person(1, 0), 999);
        Checks.due("999 too", x.person(3, 0), 999);
        Checks.due("days", x.person(2, 2), 126);
        works(x, "buy 0;week;week;", 3, 0);
        Checks.due("994, and 999 again", x.person(0, 0), 999);
        Checks.due("who skipped lived 6", x.person(0, 2), 126 + 13);
    }

    private static void whoSkips() {
        Doc.terms("who has: has lived 6, has skipped one more, pays the FINES of all its TASKS of this MONDAY, "
                + "by their numbers, each as far as coins last (these are never done)");
        BoughtMondays x = Checks.made("person 17 30;person 90 30;task 0 0 7;task 1 0 40;task 0 0 5;task 0 1 9;");
        works(x, "buy 0;week;", 2, 0);
        Checks.due("days", x.person(0, 2), 6);
        Checks.due("skipped", x.person(0, 3), 1);
        Checks.due("coins last just so", x.person(0, 0), 0);
        Checks.due("fines paid", x.person(0, 6), 12);
        Checks.due("the other one has done its task", x.told(5), 2);
        Checks.due("and has paid nothing", x.person(1, 6), 0);
        Checks.due("nor skipped", x.person(1, 3), 0);
        Checks.due("missed", x.missed(), 5);
        Checks.pass(x, 9);
        Checks.due("never done", x.told(5), 2 + 8);
        Checks.due("never paid again", x.person(0, 6), 12);
        BoughtMondays y = Checks.made("person 16 0;person 5 0;person 18 0;"
                + "task 0 0 7;task 0 0 5;task 1 0 60;task 2 0 9;task 2 0 0;");
        Checks.law(y, "5");
        works(y, "buy 0;buy 1;buy 2;week;", 4, 0);
        Checks.due("one coin too few", y.person(0, 6), 11);
        Checks.due("no coins left", y.person(0, 0), 0);
        Checks.due("no coins at all", y.person(1, 6), 0);
        Checks.due("coins enough", y.person(2, 6), 9);
        Checks.due("what is left", y.person(2, 0), 4);
        Checks.due("none is done", y.told(5), 0);
        works(y, "buy 1;week;", 1, 1);
        Checks.due("who could not buy has had the next", y.person(1, 2), 13);
    }

    private static void lost() {
        Doc.terms("for each DUTY that nobody who stays can do its worth is lost");
        BoughtMondays x = Checks.made("person 90 0;person 90 0;duty 1;duty 2;duty 4;duty 8;can 0 0;can 0 1;can 1 1;can 1 2;");
        works(x, "week;", 1, 0);
        Checks.due("nobody can do it", x.told(6), 8);
        works(x, "buy 0;week;", 2, 0);
        Checks.due("without person 0", x.told(6), 8 + 9);
        works(x, "buy 1;week;", 2, 0);
        Checks.due("without person 1", x.told(6), 17 + 12);
        works(x, "buy 0;buy 1;week;", 3, 0);
        Checks.due("nobody stays", x.told(6), 29 + 15);
        works(x, "buy 0;sell 0;week;", 3, 0);
        Checks.due("sold back", x.told(6), 44 + 8);
        BoughtMondays y = Checks.made(Checks.times(6, "duty 30;"));
        works(y, "week;", 1, 0);
        Checks.due("a town without persons", y.told(6), 180);
        BoughtMondays z = Checks.made("person 90 0;");
        works(z, "buy 0;week;", 2, 0);
        Checks.due("a town without duties", z.told(6), 0);
    }

    private static void nextWeek() {
        Doc.terms("then it is the next WEEK, nothing is bought off.");
        BoughtMondays x = Checks.made(Checks.times(6, "person 90 0;"));
        works(x, "buy 0;buy 1;buy 2;buy 3;buy 4;buy 5;", 6, 0);
        Checks.due("all have", x.told(4), 63);
        works(x, "week;", 1, 0);
        Checks.due("the week", x.told(3), 1);
        Checks.due("none has", x.told(4), 0);
        for (int p = 0; p < 6; p++) {
            Checks.due("paid", x.person(p, 5), -1);
        }
    }

    private static void undo() {
        Doc.promise(8, "The latest WORK that was done is undone: how many are left; -1: there is none.");
        BoughtMondays x = Checks.made("person 90 2;duty 3;task 0 1 5;");
        Checks.due("undo() at first", x.undo(), -1);
        Checks.due("undo() once more", x.undo(), -1);
        Checks.due("no call was refused", x.status(0) + x.status(1), 0);
        for (int i = 1; i <= 16; i++) {
            works(x, i == 2 ? "buy 0;later 0;week;" : "week;", i == 2 ? 3 : 1, 0);
        }
        for (int i = 15; i >= 0; i--) {
            Checks.due("undo()", x.undo(), i);
            Checks.due("the week", x.told(3), i);
            Checks.due("lost", x.told(6), 3 * i);
            Checks.due("days", x.person(0, 2), 7 * i - (i > 1 ? 1 : 0));
            Checks.due("skipped", x.person(0, 3), i > 1 ? 1 : 0);
            Checks.due("the Monday", x.task(0, 1), i > 1 ? 2 : 1);
            Checks.due("done", x.told(5), i > 2 ? 1 : 0);
        }
        Checks.due("undo() of nothing", x.undo(), -1);
        Checks.due("coins as at first", x.person(0, 0), 90);
        works(x, "", 0, 0);
        works(x, "sell 0;", 0, 1);
        Checks.reads(x, "work", "week;x", -9, 5);
        Checks.due("a work with a fault is none", x.count(2), 2);
        Checks.due("undo() of one without steps that were done", x.undo(), 1);
        Checks.due("undo() of an empty one", x.undo(), 0);
        Checks.due("undo()", x.undo(), -1);
        works(x, "buy 0;", 1, 0);
        works(x, "sell 0;", 1, 0);
        x.undo();
        Checks.due("bought off again", x.person(0, 5), 5);
        Checks.due("coins", x.person(0, 0), 85);
        works(x, "week;", 1, 0);
        Checks.due("an other work in its place", x.undo(), 1);
        Checks.due("bought off still", x.told(4), 1);
    }

    private static void told() {
        Doc.promise(9, "0 PERSONS, 1 DUTIES, 2 TASKS, 3 the WEEK, 4 PERSONS who have bought off this MONDAY (bits), "
                + "5 TASKS that are done (bits), 6 worth that was lost by now, 7 coins of all, 8 days lived by all, "
                + "9 lines of the BOOK");
        BoughtMondays x = Checks.made(Checks.times(6, "person 500 30;") + Checks.times(6, "duty 30;")
                + Checks.times(12, "task 5 60 1;"));
        Checks.book(x, "0 1;1 1;2 1;3 1;4 1;5 1;");
        toldDue(x, 6, 6, 12, 0, 0, 0, 0, 3000, 0, 6, 0);
        Checks.pass(x, 300);
        Checks.law(x, "99");
        works(x, "buy 0;buy 1;buy 2;buy 3;buy 4;buy 5;buy 5;", 6, 1);
        toldDue(x, 6, 6, 12, 300, 63, 4095, 54000, 5400, 12600, 6, 1);
        BoughtMondays y = Checks.made("person 9 1;person 9 0;person 9 0;duty 3;can 0 0;task 0 0 1;task 2 1 1;");
        works(y, "buy 2;week;buy 1;", 3, 0);
        toldDue(y, 3, 1, 2, 1, 2, 1, 0, 18, 20, 0, 0);

        Doc.promise(9, "IllegalArgumentException: another what (so below).");
        for (int what : new int[] {-1, 11, Integer.MIN_VALUE, Integer.MAX_VALUE}) {
            Checks.argument(x, "told(" + what + ")", () -> x.told(what));
        }
    }

    private static void toldDue(BoughtMondays x, int... due) {
        for (int what = 0; what < due.length; what++) {
            Checks.due("told(" + what + ")", x.told(what), due[what]);
        }
    }

    private static void toldRefused() {
        Doc.promise(9, "10 STEPS REFUSED by the latest WORK (0 ahead of any, behind undo(), restore()).");
        BoughtMondays x = Checks.made("person 90 0;");
        Checks.due("ahead of any", x.told(10), 0);
        works(x, "sell 0;sell 0;week;", 1, 2);
        works(x, "sell 0;", 0, 1);
        x.undo();
        Checks.due("behind undo()", x.told(10), 0);
        works(x, "sell 0;sell 0;sell 0;", 0, 3);
        x.image();
        Checks.due("behind image()", x.told(10), 3);
        works(x, "sell 0;", 0, 1);
        x.restore();
        Checks.due("behind restore()", x.told(10), 0);
        works(x, "again 60[sell 0;sell 0;sell 0;sell 0;];", 0, 199);
        Checks.reads(x, "work", "x", -9, 0);
        Checks.due("a work with a fault is none", x.told(10), 199);
        works(x, "week;", 1, 0);
    }

    private static void person() {
        Doc.promise(10, "Of a PERSON: 0 coins, 1 WAGE, 2 days lived, 3 MONDAYS skipped, 4 DUTIES that can be done (bits), "
                + "5 what was paid for this MONDAY (NONE: not bought off), 6 FINES paid by now.");
        BoughtMondays x = Checks.made("person 20 2;person 500 30;duty 1;duty 1;duty 1;duty 1;duty 1;duty 1;"
                + "can 0 0;can 0 5;can 1 0;can 1 1;can 1 2;can 1 3;can 1 4;can 1 5;task 0 0 3;");
        personDue(x, 0, 20, 2, 0, 0, 33, -1, 0);
        personDue(x, 1, 500, 30, 0, 0, 63, -1, 0);
        works(x, "buy 0;", 1, 0);
        personDue(x, 0, 15, 2, 0, 0, 33, 5, 0);
        works(x, "week;", 1, 0);
        personDue(x, 0, 12, 2, 6, 1, 33, -1, 3);
        personDue(x, 1, 530, 30, 7, 0, 63, -1, 0);
        Checks.law(x, "0");
        works(x, "buy 0;", 1, 0);
        Checks.due("bought off for nothing is not NONE", x.person(0, 5), 0);
        for (int what : new int[] {-1, 7, Integer.MIN_VALUE, Integer.MAX_VALUE}) {
            Checks.argument(x, "person(0, " + what + ")", () -> x.person(0, what));
        }

        Doc.promise(10, "NoSuchElementException: no such PERSON, DUTY, TASK (so below, ahead of others).");
        for (int p : new int[] {-1, 2, 6, Integer.MIN_VALUE, Integer.MAX_VALUE}) {
            Checks.missing(x, "person(" + p + ", 0)", () -> x.person(p, 0));
            Checks.missing(x, "person(" + p + ", 7)", () -> x.person(p, 7));
        }
    }

    private static void personDue(BoughtMondays x, int person, int... due) {
        for (int what = 0; what < due.length; what++) {
            Checks.due("person(" + person + ", " + what + ")", x.person(person, what), due[what]);
        }
    }

    private static void duty() {
        Doc.promise(11, "Of a DUTY: 0 worth, 1 PERSONS who can do it (bits).");
        BoughtMondays x = Checks.made(Checks.times(6, "person 90 0;") + "duty 30;duty 1;duty 2;"
                + "can 0 0;can 1 0;can 2 0;can 3 0;can 4 0;can 5 0;can 5 2;can 0 2;");
        int[][] due = {{30, 63}, {1, 0}, {2, 33}};
        for (int d = 0; d < 3; d++) {
            Checks.due("worth", x.duty(d, 0), due[d][0]);
            Checks.due("who can", x.duty(d, 1), due[d][1]);
        }
        works(x, "buy 5;", 1, 0);
        Checks.due("who has bought off can, too", x.duty(2, 1), 33);
        for (int what : new int[] {-1, 2, Integer.MIN_VALUE, Integer.MAX_VALUE}) {
            Checks.argument(x, "duty(2, " + what + ")", () -> x.duty(2, what));
        }
        for (int d : new int[] {-1, 3, Integer.MIN_VALUE, Integer.MAX_VALUE}) {
            Checks.missing(x, "duty(" + d + ", 0)", () -> x.duty(d, 0));
            Checks.missing(x, "duty(" + d + ", 2)", () -> x.duty(d, 2));
        }
    }

    private static void task() {
        Doc.promise(12, "Of a TASK: 0 the PERSON, 1 the MONDAY as it falls now, 2 the FINE, 3 1 it is done, 0 not.");
        BoughtMondays x = Checks.made("person 90 0;person 90 0;task 1 0 60;task 0 59 0;task 1 0 1;");
        taskDue(x, 0, 1, 0, 60, 0);
        taskDue(x, 1, 0, 59, 0, 0);
        works(x, "later 1;later 2;week;", 3, 0);
        taskDue(x, 0, 1, 0, 60, 1);
        taskDue(x, 1, 0, 60, 0, 0);
        taskDue(x, 2, 1, 1, 1, 0);
        works(x, "buy 1;week;", 2, 0);
        taskDue(x, 2, 1, 1, 1, 0);
        x.undo();
        works(x, "week;", 1, 0);
        taskDue(x, 2, 1, 1, 1, 1);
        for (int what : new int[] {-1, 4, Integer.MIN_VALUE, Integer.MAX_VALUE}) {
            Checks.argument(x, "task(2, " + what + ")", () -> x.task(2, what));
        }
        for (int t : new int[] {-1, 3, Integer.MIN_VALUE, Integer.MAX_VALUE}) {
            Checks.missing(x, "task(" + t + ", 0)", () -> x.task(t, 0));
            Checks.missing(x, "task(" + t + ", 4)", () -> x.task(t, 4));
        }
    }

    private static void taskDue(BoughtMondays x, int task, int... due) {
        for (int what = 0; what < due.length; what++) {
            Checks.due("task(" + task + ", " + what + ")", x.task(task, what), due[what]);
        }
    }

    private static void image() {
        Doc.promise(43, "An IMAGE of all that WORK changes, and of WORKS that can be undone: how many there are; "
                + "-1: there are 3.");
        BoughtMondays x = Checks.made("person 90 2;duty 3;task 0 1 5;");
        for (int i = 1; i <= 3; i++) {
            Checks.due("image()", x.image(), i);
        }
        Checks.due("a fourth", x.image(), -1);
        Checks.due("a fifth", x.image(), -1);
        Checks.due("three", x.count(0), 3);
        Checks.due("no call was refused", x.status(0) + x.status(1), 0);
        x.restore();
        Checks.due("one gone, one more", x.image(), 3);
        Checks.due("and no more", x.image(), -1);
        works(x, "week;", 1, 0);
        Checks.due("a fourth", x.image(), -1);
        x.restore();
        Checks.due("the latest is the third, not the one that was refused", x.told(3), 0);
    }

    private static void restore() {
        Doc.promise(44, "All that is as in the latest IMAGE, which is gone: how many are left; -1: there is none.");
        BoughtMondays x = Checks.made("person 90 2;duty 3;task 0 1 5;task 0 9 1;");
        Checks.due("restore() at first", x.restore(), -1);
        Checks.due("no call was refused", x.status(0) + x.status(1), 0);
        x.image();
        works(x, "buy 0;later 0;week;", 3, 0);
        works(x, "later 1;buy 0;", 2, 0);
        x.image();
        Checks.law(x, "7");
        Checks.book(x, "0 9;");
        works(x, "sell 0;week;week;week;", 4, 0);
        x.image();
        x.undo();
        x.undo();
        Checks.due("restore()", x.restore(), 2);
        restoredDue(x, 4, 3, 0, 88, 27);
        Checks.due("restore()", x.restore(), 1);
        restoredDue(x, 1, 2, 1, 79, 6);
        Checks.due("paid", x.person(0, 5), 6);
        Checks.due("the law is kept", x.price(0), 7);
        Checks.due("the book is kept", x.told(9), 1);
        Checks.due("undo() of what the image had", x.undo(), 1);
        Checks.due("bought off nothing", x.told(4), 0);
        Checks.due("the Monday of task 1", x.task(1, 1), 9);
        Checks.due("restore()", x.restore(), 0);
        restoredDue(x, 0, 0, 0, 90, 0);
        Checks.due("the Monday of task 0", x.task(0, 1), 1);
        Checks.due("undo(): nothing was to be undone then", x.undo(), -1);
        Checks.due("restore()", x.restore(), -1);
        sixteen();
        fullTown();
    }

    /** All rows of a full town come back, and works that were overwritten behind the image, too. */
    private static void fullTown() {
        StringBuilder town = new StringBuilder();
        for (int i = 0; i < 6; i++) {
            town.append("person ").append(490 + i).append(' ').append(i).append(";duty ").append(i + 1);
            town.append(";task ").append(i).append(" 0 ").append(i + 1).append(";task ").append(i).append(" 9 7;");
        }
        BoughtMondays x = Checks.made(town.toString());
        String first = rows(x);
        Checks.work(x, "buy 0;buy 1;buy 2;buy 3;buy 4;buy 5;later 11;later 10;week;buy 5;");
        String second = rows(x);
        Checks.work(x, "week;later 11;later 9;buy 4;buy 0;");
        String third = rows(x);
        x.image();
        x.undo();
        Checks.holds("undone once", rows(x).equals(second));
        x.undo();
        Checks.holds("undone twice", rows(x).equals(first));
        Checks.work(x, "week;week;");
        Checks.work(x, "week;week;");
        Checks.work(x, "week;week;");
        x.restore();
        Checks.holds("restored", rows(x).equals(third));
        Checks.due("undo()", x.undo(), 1);
        Checks.holds("undone once", rows(x).equals(second));
        Checks.due("undo()", x.undo(), 0);
        Checks.holds("undone twice", rows(x).equals(first));
    }

    private static String rows(BoughtMondays x) {
        StringBuilder seen = new StringBuilder();
        seen.append(x.told(3)).append(' ').append(x.told(5)).append(' ').append(x.told(6));
        for (int p = 0; p < 6; p++) {
            for (int what : new int[] {0, 2, 3, 5, 6}) {
                seen.append(' ').append(x.person(p, what));
            }
        }
        for (int t = 0; t < 12; t++) {
            seen.append(' ').append(x.task(t, 1));
        }
        return seen.toString();
    }

    private static void restoredDue(BoughtMondays x, int week, int works, int bought, int coins, int days) {
        Checks.due("the week", x.told(3), week);
        Checks.due("works", x.count(2), works);
        Checks.due("bought off", x.told(4), bought);
        Checks.due("lost", x.told(6), 3 * week);
        Checks.due("coins", x.told(7), coins);
        Checks.due("days", x.told(8), days);
    }

    /** Images of full and of empty rows of works. */
    private static void sixteen() {
        BoughtMondays x = Checks.made("person 90 0;");
        x.image();
        for (int i = 1; i <= 16; i++) {
            works(x, "week;", 1, 0);
        }
        x.image();
        x.undo();
        works(x, "buy 0;", 1, 0);
        Checks.due("sixteen", x.count(2), 16);
        Checks.due("restore()", x.restore(), 1);
        Checks.due("sixteen", x.count(2), 16);
        Checks.due("the week", x.told(3), 16);
        Checks.reads(x, "work", "week;", -20, -1);
        for (int i = 15; i >= 0; i--) {
            Checks.due("undo()", x.undo(), i);
            Checks.due("the week", x.told(3), i);
        }
        works(x, "week;", 1, 0);
        Checks.due("restore()", x.restore(), 0);
        Checks.due("no works", x.count(2), 0);
        Checks.due("the week", x.told(3), 0);
    }

    private static void status() {
        Doc.promise(45, "How many calls were refused: 0 NoSuchElementException, 1 IllegalArgumentException; "
                + "NONE for others. (No IMAGE keeps it.)");
        BoughtMondays x = Checks.made("person 90 0;");
        for (int what : new int[] {-1, 2, Integer.MIN_VALUE, Integer.MAX_VALUE}) {
            Checks.due("status(" + what + ")", x.status(what), -1);
        }
        x.image();
        Checks.missing(x, "price(1)", () -> x.price(1));
        Checks.missing(x, "price(2)", () -> x.price(2));
        Checks.argument(x, "told(11)", () -> x.told(11));
        works(x, "sell 0;", 0, 1);
        Checks.reads(x, "law", "x", -9, 0);
        Checks.due("status(0)", x.status(0), 2);
        Checks.due("status(1), faults and steps are not counted", x.status(1), 1);
        x.restore();
        Checks.due("status(0) behind restore()", x.status(0), 2);
        Checks.due("status(1) behind restore()", x.status(1), 1);
        x.undo();
        x.restore();
        Checks.town(x, "");
        Checks.due("status(0) behind a town", x.status(0), 2);
        Checks.due("status(1) behind a town", x.status(1), 1);
        Checks.due("another object has its own", new BoughtMondays().status(0), 0);
    }

    private static void count() {
        Doc.promise(46, "0 IMAGES, 1 bytes of the TAPE, 2 WORKS that can be undone; NONE for others.");
        BoughtMondays x = Checks.made("person 90 0;");
        for (int what : new int[] {-1, 3, Integer.MIN_VALUE, Integer.MAX_VALUE}) {
            Checks.due("count(" + what + ")", x.count(what), -1);
        }
        countDue(x, 0, 0, 0);
        x.image();
        works(x, "week;", 1, 0);
        Checks.feed(x, Checks.times(41, " "));
        countDue(x, 1, 60, 1);
        x.book(0);
        countDue(x, 1, 0, 1);
        x.undo();
        countDue(x, 1, 0, 0);
        works(x, "week;", 1, 0);
        works(x, "week;", 1, 0);
        countDue(x, 1, 0, 2);
        x.restore();
        countDue(x, 0, 0, 0);
        Checks.due("no call was refused", x.status(0) + x.status(1), 0);
    }

    private static void countDue(BoughtMondays x, int images, int bytes, int works) {
        Checks.due("count(0)", x.count(0), images);
        Checks.due("count(1)", x.count(1), bytes);
        Checks.due("count(2)", x.count(2), works);
    }
}
