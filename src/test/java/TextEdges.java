import java.util.ArrayList;
import java.util.List;

/** The edges of the tape and of the four texts: Terms from TOWN to FAULTS, promises 1 to 7. */
final class TextEdges {
    private static final String PERSON = "person 0 0;";
    private static final String DUTY = "duty 1;";
    private static final String TASK = "task 0 0 0;";
    private static final int BLANKS = 0x20202020;

    private TextEdges() {
    }

    static void run() {
        calls();
        townTerms();
        lawTerms();
        workTerms();
        bookTerms();
        signTerms();
        faultTerms();
        newObject();
        feed();
        town();
        law();
        work();
        book();
        fault();
    }

    private static void calls() {
        Doc.says("What it is", "An object is used for at most 512 calls after it has been made");
        BoughtMondays x = new BoughtMondays();
        refuseOften(x, 511);
        Checks.due("call 512", x.status(1), 511);
        BoughtMondays y = new BoughtMondays();
        Checks.feed(y, "person 7 3;duty 2;  ");
        refuseOften(y, 510);
        Checks.due("call 512, a town", y.town(20), 1);
    }

    private static void refuseOften(BoughtMondays x, int times) {
        int refused = 0;
        for (int i = 0; i < times; i++) {
            try {
                x.told(11);
            } catch (IllegalArgumentException e) {
                refused++;
            }
        }
        Checks.due("refused calls", refused, times);
    }

    /** A number of a text: the least and the most are taken, those beside them are FAULT 2 at the number's place. */
    private static void number(String townText, String kind, String ahead, String behind, int least, int most) {
        int place = ahead.length();
        for (int good : new int[] {least, most}) {
            BoughtMondays x = townText.isEmpty() ? new BoughtMondays() : Checks.made(townText);
            Checks.reads(x, kind, ahead + good + behind, taken(kind, x, ahead), -1);
        }
        if (least > 0) {
            Checks.readsIn(townText, kind, ahead + (least - 1) + behind, -8, place);
        }
        Checks.readsIn(townText, kind, ahead + (most + 1) + behind, -8, place);
        Checks.readsIn(townText, kind, ahead + ((1L << 32) + least) + behind, -8, place);
    }

    /** What a text answers that is taken and has one row: a town's persons, 1 law, 1 line, or steps that were done. */
    private static int taken(String kind, BoughtMondays x, String ahead) {
        if (kind.equals("town")) {
            return ahead.split("person", -1).length - 1;
        }
        return kind.equals("work") ? 0 : 1;
    }

    // ---- Terms: TOWN ----

    private static void townTerms() {
        Doc.terms("A TOWN is a text of up to 600 bytes");
        String clauses = "person 7 3;" + DUTY + Checks.times(57, "can 0 0;");
        String last = "task 0 9 8;";
        String full = clauses + Checks.times(600 - clauses.length() - last.length(), " ") + last;
        Checks.due("bytes of the full text", full.length(), 600);
        BoughtMondays x = new BoughtMondays();
        Checks.reads(x, "town", full, 1, -1);
        Checks.due("the clause that ends with byte 600", x.task(0, 1), 9);
        Checks.reads(x, "town", full.substring(0, 599) + " ", -9, 600);
        Checks.reads(x, "town", full.substring(0, 599), -9, 599);
        Checks.reads(x, "town", "", 0, -1);
        Checks.reads(x, "town", Checks.times(600, " "), 0, -1);

        Doc.terms("{ CLAUSE \";\" }, at most 60");
        String ahead = PERSON + DUTY;
        Checks.readsIn("", "town", ahead + Checks.times(58, "can 0 0;"), 1, -1);
        Checks.readsIn("", "town", ahead + Checks.times(58, "can 0 0;") + "  can 0 0;", -7, 18 + 58 * 8 + 2);
        Checks.readsIn("", "town", ahead + Checks.times(58, "can 0 0;") + DUTY, -7, 18 + 58 * 8);
        Checks.readsIn("", "town", "duty 1;;", -9, 7);
        Checks.readsIn("", "town", "duty 1 duty 1;", -9, 7);

        persons();
        duties();
        tasks();
    }

    private static void persons() {
        Doc.terms("CLAUSE: \"person\" C W (PERSONS, numbered from 0 on, 6 at most");
        BoughtMondays x = new BoughtMondays();
        Checks.reads(x, "town", "person 1 0;person 2 0;person 3 0;person 4 0;person 5 0;person 6 0;", 6, -1);
        for (int p = 0; p < 6; p++) {
            Checks.due("coins of person " + p, x.person(p, 0), p + 1);
        }
        Checks.missing(x, "person(6, 0)", () -> x.person(6, 0));
        Checks.readsIn("", "town", Checks.times(6, PERSON) + PERSON, -7, 66);
        Checks.readsIn("", "town", Checks.times(6, PERSON) + "person 501 0;", -7, 66);

        Doc.terms("C coins, 0 to 500");
        number("", "town", "person ", " 0;", 0, 500);
        Checks.due("500 coins", Checks.made("person 500 0;").person(0, 0), 500);
        Checks.due("0 coins", Checks.made("person 0 0;").person(0, 0), 0);

        Doc.terms("WAGE W, 0 to 30");
        number("", "town", "person 0 ", ";", 0, 30);
        Checks.due("a wage of 30", Checks.made("person 0 30;").person(0, 1), 30);
        Checks.due("a wage of 0", Checks.made("person 30 0;").person(0, 1), 0);
    }

    private static void duties() {
        Doc.terms("\"duty\" N (DUTIES likewise, 6");
        BoughtMondays x = new BoughtMondays();
        Checks.reads(x, "town", "duty 1;duty 2;duty 3;duty 4;duty 5;duty 6;", 0, -1);
        for (int d = 0; d < 6; d++) {
            Checks.due("worth of duty " + d, x.duty(d, 0), d + 1);
        }
        Checks.missing(x, "duty(6, 0)", () -> x.duty(6, 0));
        Checks.readsIn("", "town", Checks.times(6, DUTY) + DUTY, -7, 42);
        Checks.readsIn("", "town", Checks.times(6, DUTY) + "duty 31;", -7, 42);

        Doc.terms("N coins' worth, 1 to 30");
        number("", "town", "duty ", ";", 1, 30);
        Checks.due("a worth of 1", Checks.made("duty 1;").duty(0, 0), 1);
        Checks.due("a worth of 30", Checks.made("duty 30;").duty(0, 0), 30);

        Doc.terms("\"can\" P D (PERSON P can do DUTY D, both told ahead)");
        number("", "town", PERSON + PERSON + DUTY + "can ", " 0;", 0, 1);
        number("", "town", PERSON + DUTY + DUTY + DUTY + "can 0 ", ";", 0, 2);
        Checks.readsIn("", "town", "can 0 0;" + PERSON + DUTY, -8, 4);
        Checks.readsIn("", "town", PERSON + "can 0 0;" + DUTY, -8, 17);
        Checks.readsIn("", "town", DUTY + "can 0 0;" + PERSON, -8, 11);
        BoughtMondays y = Checks.made(PERSON + PERSON + DUTY + DUTY + "can 1 0;can 1 0;");
        Checks.due("person 0 can do nothing", y.person(0, 4), 0);
        Checks.due("told twice, it is once", y.person(1, 4), 1);
    }

    private static void tasks() {
        Doc.terms("or \"task\" P M F (TASKS likewise, 12");
        StringBuilder twelve = new StringBuilder(PERSON);
        for (int t = 0; t < 12; t++) {
            twelve.append("task 0 ").append(t + 20).append(" 0;");
        }
        BoughtMondays x = new BoughtMondays();
        Checks.reads(x, "town", twelve.toString(), 1, -1);
        for (int t = 0; t < 12; t++) {
            Checks.due("the Monday of task " + t, x.task(t, 1), t + 20);
        }
        Checks.missing(x, "task(12, 0)", () -> x.task(12, 0));
        Checks.readsIn("", "town", PERSON + Checks.times(13, TASK), -7, 143);
        Checks.readsIn("", "town", PERSON + Checks.times(12, TASK) + "task 1 0 0;", -7, 143);

        Doc.terms("of PERSON P, told ahead");
        number("", "town", PERSON + PERSON + "task ", " 0 0;", 0, 1);
        Checks.readsIn("", "town", TASK + PERSON, -8, 5);
        Checks.due("of the last person", Checks.made(PERSON + PERSON + "task 1 0 0;").task(0, 0), 1);

        Doc.terms("on MONDAY M, 0 to 60");
        number("", "town", PERSON + "task 0 ", " 0;", 0, 60);
        Checks.due("on Monday 60", Checks.made(PERSON + "task 0 60 0;").task(0, 1), 60);
        Checks.due("on Monday 0", Checks.made(PERSON + "task 0 0 60;").task(0, 1), 0);

        Doc.terms("FINE F, 0 to 60");
        number("", "town", PERSON + "task 0 0 ", ";", 0, 60);
        Checks.due("a fine of 60", Checks.made(PERSON + "task 0 0 60;").task(0, 2), 60);
        Checks.due("a fine of 0", Checks.made(PERSON + "task 0 60 0;").task(0, 2), 0);
    }

    // ---- Terms: LAW as a text (LawEdges has its values) ----

    private static void lawTerms() {
        Doc.terms("A LAW is a text of up to 150 bytes");
        BoughtMondays x = Checks.made(PERSON);
        Checks.reads(x, "law", "10" + Checks.times(74, "+1"), 1, -1);
        Checks.due("150 bytes, the last counts", x.price(0), 84);
        Checks.feed(x, "10" + Checks.times(74, "+1") + "  ");
        Checks.argument(x, "law(151)", () -> x.law(151));
        Checks.due("the tape stays", x.count(1), 160);

        Doc.terms("E, at the end nothing more");
        Checks.readsIn("", "law", "1 2", -9, 2);
        Checks.readsIn("", "law", "1;", -9, 1);
        Checks.readsIn("", "law", "week week", -9, 5);
        Checks.readsIn("", "law", "1)", -9, 1);
        Checks.readsIn("", "law", "1(", -9, 1);
        Checks.readsIn("", "law", "1   ", 1, -1);
        Checks.readsIn("", "law", "", -9, 0);
        Checks.readsIn("", "law", "   ", -9, 3);

        Doc.terms("U: N (0 to 999)");
        number("", "law", "", "", 0, 999);
        number("", "law", "1 + ", " * 2", 0, 999);
        Checks.readsIn("", "law", "-1", -9, 0);
    }

    // ---- Terms: WORK ----

    private static void workTerms() {
        Doc.terms("WORK is a text of up to 150 bytes: { STEP \";\" }");
        BoughtMondays x = Checks.made(PERSON);
        Checks.reads(x, "work", Checks.times(30, "week;"), 30, -1);
        Checks.feed(x, Checks.times(31, "week;"));
        Checks.argument(x, "work(151)", () -> x.work(151));
        Checks.due("the tape stays", x.count(1), 160);
        Checks.due("no week went by", x.told(3), 30);
        Checks.due("150 bytes of it", x.work(150), 30);
        Checks.reads(x, "work", "", 0, -1);
        Checks.reads(x, "work", Checks.times(150, " "), 0, -1);
        Checks.reads(x, "work", ";", -9, 0);
        Checks.reads(x, "work", "week;;", -9, 5);
        Checks.reads(x, "work", "week week;", -9, 5);

        Doc.terms("STEP: \"buy\" P, \"sell\" P, \"later\" T, \"week\"");
        String town = Checks.times(2, PERSON) + Checks.times(3, "task 1 60 0;");
        number(town, "work", "buy ", ";", 0, 1);
        number(town, "work", "sell ", ";", 0, 1);
        number(town, "work", "later ", ";", 0, 2);
        Checks.readsIn("", "work", "buy 0;", -8, 4);
        Checks.readsIn("", "work", "sell 0;", -8, 5);
        Checks.readsIn(PERSON, "work", "later 0;", -8, 6);
        Checks.readsIn(town, "work", "buy;", -9, 3);
        Checks.readsIn(town, "work", "week 0;", -9, 5);
        Checks.readsIn(Checks.times(6, PERSON) + Checks.times(12, TASK), "work", "buy 5;sell 5;later 11;", 1, -1);

        Doc.terms("or \"again\" N \"[\" { STEP \";\" } \"]\" (N 0 to 60)");
        number("", "work", "again ", "[];", 0, 60);
        Checks.readsIn("", "work", "again 0[week;];", 0, -1);
        Checks.readsIn("", "work", "again 1[week;];", 1, -1);
        Checks.readsIn("", "work", "again 60[week;];", 60, -1);
        Checks.readsIn("", "work", "again 60[];", 0, -1);
        Checks.readsIn("", "work", "again [week;];", -9, 6);
        Checks.readsIn("", "work", "again 2 week;", -9, 8);
        Checks.readsIn("", "work", "again 2[week];", -9, 12);
        Checks.readsIn("", "work", "again 2[week;]", -9, 14);
        Checks.readsIn("", "work", "again 2[week;", -9, 13);
        Checks.readsIn("", "work", "again 2[week;]];", -9, 14);
        Checks.readsIn("", "work", "week;]", -9, 5);
    }

    // ---- Terms: BOOK ----

    private static void bookTerms() {
        Doc.terms("BOOK is a text of up to 60 bytes: { P D \";\" }");
        BoughtMondays x = Checks.made(Checks.times(6, PERSON));
        String five = "0 140;1 140;2 140;3 140;4 140;";
        String full = five + Checks.times(60 - five.length() - 6, " ") + "5 120;";
        Checks.due("bytes of the full text", full.length(), 60);
        Checks.reads(x, "book", full, 6, -1);
        Checks.due("the line that ends with byte 60", x.together(0, 5, 20), 0);
        Checks.feed(x, full + " ");
        Checks.argument(x, "book(61)", () -> x.book(61));
        Checks.due("the tape stays", x.count(1), 80);
        Checks.due("the lines stay", x.told(9), 6);
        Checks.reads(Checks.made(PERSON), "book", "", 0, -1);
        Checks.readsIn(PERSON, "book", ";", -9, 0);
        Checks.readsIn(PERSON, "book", "0;", -9, 1);
        Checks.readsIn(PERSON, "book", "0 1 1;", -9, 4);
        number(PERSON + PERSON + PERSON, "book", "", " 0;", 0, 2);
        Checks.readsIn("", "book", "0 0;", -8, 0);

        Doc.terms("no P twice");
        Checks.readsIn(PERSON + PERSON, "book", "0 1;1 1;", 2, -1);
        Checks.readsIn(PERSON + PERSON, "book", "0 1;1 1;0 1;", -8, 8);
        Checks.readsIn(PERSON + PERSON, "book", "1 1; 01 141;", -8, 5);
        Checks.readsIn(Checks.times(6, PERSON), "book", "5 1;4 1;3 1;2 1;1 1;0 1;5 1;", -8, 24);

        Doc.terms("PERSON P lived D days more (0 to 140)");
        number(PERSON, "book", "0 ", ";", 0, 140);
        BoughtMondays y = Checks.made(PERSON + PERSON);
        Checks.reads(y, "book", "1 140;0 0;", 2, -1);
        Checks.due("days of person 0 fit no week", y.apart(0, 1, 0), 0);
        Checks.reads(y, "book", "1 140;0 140;", 2, -1);
        Checks.due("140 days, both all Mondays of 20", y.together(0, 1, 20), 20);
    }

    // ---- Terms: what a text is made of ----

    private static void signTerms() {
        Doc.terms("Numbers: digits, as many as stand there");
        Checks.readsIn("", "town", "person " + Checks.times(300, "0") + "500 30;", 1, -1);
        Checks.readsIn("", "town", "person " + Checks.times(300, "9") + " 30;", -8, 7);
        Checks.readsIn("", "town", "person 12;", -9, 9);
        Checks.readsIn("", "town", "person 1 2 3;", -9, 11);
        Checks.readsIn("", "law", Checks.times(147, "0") + "999", 1, -1);
        Checks.readsIn("", "law", "00", 1, -1);
        Checks.readsIn("", "law", "2147483648", -8, 0);
        Checks.readsIn("", "law", "4294967301", -8, 0);
        Checks.readsIn("", "law", "18446744073709551621", -8, 0);
        Checks.due("007", Checks.made("person 007 3;").person(0, 0), 7);

        Doc.terms("WORDS: small letters, as many as stand there");
        Checks.readsIn("", "work", "weekweek;", -9, 0);
        Checks.readsIn("", "work", "wee;", -9, 0);
        Checks.readsIn("", "work", "weeks;", -9, 0);
        Checks.readsIn("", "work", "weeka;", -9, 0);
        Checks.readsIn("", "work", "weekz;", -9, 0);
        Checks.readsIn("", "work", "Week;", -9, 0);
        Checks.readsIn("", "work", "weeK;", -9, 0);
        Checks.readsIn("", "work", "again1[week;];", 1, -1);
        Checks.readsIn("", "town", "person7 3;duty1;can0 0;task0 1 1;", 1, -1);
        Checks.readsIn("", "town", "dutyx 1;", -9, 0);
        Checks.readsIn("", "town", "duty`1;", -9, 4);
        Checks.readsIn("", "town", "duty{1;", -9, 4);
        Checks.readsIn("", "law", "week{", -9, 4);
        Checks.readsIn("", "law", "week7", -9, 4);
        Checks.readsIn("", "law", "7week", -9, 1);
        Checks.readsIn("", "law", "w", -9, 0);
        Checks.readsIn("", "law", "/", -9, 0);
        Checks.readsIn("", "law", ":", -9, 0);

        Doc.terms("blanks (32) may stand ahead of all these, and at the end");
        Checks.readsIn("", "town", "  person  7  3  ;  duty  1  ;  can  0  0  ;  task  0  1  1  ;  ", 1, -1);
        Checks.readsIn("", "law", "  least  [  1  ,  ( 2  +  3 )  *  4  ]  ", 1, -1);
        Checks.readsIn(PERSON + TASK, "work", " again  2  [  week  ;  ]  ;  later  0 ; buy 0 ; sell 0 ; ", 2, -1);
        Checks.readsIn(PERSON, "book", "  0  7  ;  ", 1, -1);
        for (int other : new int[] {0, 9, 10, 13, 31, 33, 95, 160, 255}) {
            char sign = (char) other;
            Checks.readsIn("", "town", "duty" + sign + "1;", -9, 4);
            Checks.readsIn("", "law", "1" + sign, -9, 1);
            Checks.readsIn("", "work", sign + "week;", -9, 0);
            Checks.readsIn(PERSON, "book", "0 1;" + sign, -9, 4);
        }
        // bytes above 127 are no signs of the lower half
        for (char sign : "0;wa([,".toCharArray()) {
            Checks.readsIn("", "law", "" + (char) (sign + 128), -9, 0);
            Checks.readsIn("", "town", "duty 1" + (char) (sign + 128), -9, 6);
        }
    }

    // ---- Terms: FAULTS ----

    private static void faultTerms() {
        Doc.terms("FAULTS, the first from the left, at its first byte");
        Checks.readsIn("", "town", "duty 31;dutie 1;", -8, 5);
        Checks.readsIn("", "town", "duty   031 dutie", -8, 7);
        Checks.readsIn("", "town", "   dutie 31;", -9, 3);
        Checks.readsIn("", "town", Checks.times(6, DUTY) + "  duty 31", -7, 44);
        Checks.readsIn("", "law", "1000 1", -8, 0);
        Checks.readsIn("", "law", "  weeks + 1000", -9, 2);
        Checks.readsIn(PERSON, "book", "0 141;0 1;", -8, 2);
        Checks.readsIn(PERSON, "book", "0 1;0 141;", -8, 4);

        Doc.terms("1 what can't stand there (at the length, if the text ends too early)");
        Checks.readsIn("", "town", "duty", -9, 4);
        Checks.readsIn("", "town", "duty 1", -9, 6);
        Checks.readsIn("", "town", "duty 1  ", -9, 8);
        Checks.readsIn("", "law", "1 +", -9, 3);
        Checks.readsIn("", "law", "1 +  ", -9, 5);
        Checks.readsIn("", "law", "least", -9, 5);
        Checks.readsIn("", "law", "least[1,2", -9, 9);
        Checks.readsIn("", "work", "again", -9, 5);
        Checks.readsIn("", "work", "again 3", -9, 7);
        Checks.readsIn("", "work", "again 3[", -9, 8);
        Checks.readsIn("", "work", "again 3[week;]", -9, 14);
        Checks.readsIn(PERSON, "book", "0", -9, 1);
        Checks.readsIn(PERSON, "book", "0 1", -9, 3);
        // the text ends where n says, whatever follows on the tape
        BoughtMondays x = new BoughtMondays();
        Checks.feed(x, "duty 1;");
        Checks.due("town(6)", x.town(6), -9);
        Checks.due("fault()", x.fault(), 6);
        Checks.feed(x, "week;");
        Checks.due("work(2): a word that is none", x.work(2), -9);
        Checks.due("fault()", x.fault(), 0);
        Checks.feed(x, "weeks");
        Checks.due("law(4): a word that is one", x.law(4), 1);
        Checks.feed(x, "9999");
        Checks.due("law(3): a number that is one", x.law(3), 1);
        Checks.feed(x, "9 + 9");
        Checks.due("law(2): a blank at the end", x.law(2), 1);

        Doc.terms("2 a number that is none such (a P twice in a BOOK)");
        Checks.readsIn("", "town", "duty 0;", -8, 5);
        Checks.readsIn(PERSON, "work", "buy 1", -8, 4);
        Checks.readsIn("", "work", "again 61", -8, 6);
        Checks.readsIn(PERSON + PERSON, "book", "1 0;1", -8, 4);
        Checks.readsIn(PERSON + PERSON, "book", "2", -8, 0);

        manyTerms();
    }

    private static void manyTerms() {
        Doc.terms("3 a CLAUSE, PERSON, DUTY or TASK (at its word)");
        Checks.readsIn("", "town", Checks.times(6, PERSON) + " person", -7, 67);
        Checks.readsIn("", "town", Checks.times(6, DUTY) + " duty", -7, 43);
        Checks.readsIn("", "town", PERSON + Checks.times(12, TASK) + " task", -7, 144);
        Checks.readsIn("", "town", PERSON + DUTY + Checks.times(58, "can 0 0;") + " can", -7, 483);

        Doc.terms("or a 7th of ( least most again that is open at one time");
        Checks.readsIn("", "law", "((((((1))))))", 1, -1);
        Checks.readsIn("", "law", "(((((((1)))))))", -7, 6);
        Checks.readsIn("", "law", "(((((( (1)))))))", -7, 7);
        Checks.readsIn("", "law", nested(6, "least[", ",1]"), 1, -1);
        Checks.readsIn("", "law", nested(7, "least[", ",1]"), -7, 36);
        Checks.readsIn("", "law", nested(6, "most[1,", "]"), 1, -1);
        Checks.readsIn("", "law", nested(7, "most[1,", "]"), -7, 42);
        Checks.readsIn("", "law", nested(3, "(most[1,", "])"), 1, -1);
        Checks.readsIn("", "law", nested(3, "(least[", ",1])").replace("[1,1]", "[(1),1]"), -7, 21);
        Checks.readsIn("", "law", "((((((least", -7, 6);
        Checks.readsIn("", "law", "((((((most", -7, 6);
        Checks.readsIn("", "law", "((((((1))))))+((((((1))))))*((((((1))))))", 1, -1);
        Checks.readsIn("", "law", "((((((1))))))+(((((((1)))))))", -7, 20);
        Checks.readsIn("", "law", "(((((least[1,2]+most[1,2])))))", 1, -1);
        Checks.readsIn("", "law", "(((((least[1,(2)])))))", -7, 13);
        Checks.readsIn("", "work", nested(6, "again 1[", "];").replace("[1]", "[week;]"), 1, -1);
        Checks.readsIn("", "work", nested(7, "again 1[", "];").replace("[1]", "[week;]"), -7, 48);
        Checks.readsIn("", "work", nested(6, "again 1[", "];").replace("[1]", "[again"), -7, 48);
        Checks.readsIn("", "work", nested(5, "again 1[", "];").replace("[1]", "[again 1[];again 1[];]"), 0, -1);

        Doc.terms("of one the least");
        Checks.readsIn("", "town", PERSON + DUTY + Checks.times(58, "can 0 0;") + "cane 0 0;", -9, 482);
        Checks.readsIn("", "town", PERSON + DUTY + Checks.times(58, "can 0 0;") + "0", -9, 482);
        Checks.readsIn("", "town", Checks.times(6, PERSON) + "persons 0 0;", -9, 66);
        Checks.readsIn("", "law", "((((((leas[1,2]", -9, 6);
        Checks.readsIn("", "law", "((((((1(", -9, 7);
        Checks.readsIn("", "law", "((((((1 least", -9, 8);
    }

    private static String nested(int times, String ahead, String behind) {
        return Checks.times(times, ahead) + "1" + Checks.times(times, behind);
    }

    // ---- Promises 1 to 7 ----

    private static void newObject() {
        Doc.promise(1, "A TOWN without CLAUSES.");
        BoughtMondays x = new BoughtMondays();
        for (int what = 0; what <= 10; what++) {
            Checks.due("told(" + what + ")", x.told(what), 0);
        }
        for (int what = 0; what <= 2; what++) {
            Checks.due("count(" + what + ")", x.count(what), 0);
        }
        Checks.due("status(0)", x.status(0), 0);
        Checks.due("status(1)", x.status(1), 0);
        Checks.due("fault()", x.fault(), -1);
        Checks.due("undo()", x.undo(), -1);
        Checks.due("restore()", x.restore(), -1);
        Checks.due("would", x.would(0, 1, 1, 0, 0, 0, 0, 0), 9);
        Checks.missing(x, "person(0, 0)", () -> x.person(0, 0));
        Checks.missing(x, "duty(0, 0)", () -> x.duty(0, 0));
        Checks.missing(x, "task(0, 0)", () -> x.task(0, 0));
        Checks.argument(x, "town(1)", () -> x.town(1));
        Checks.due("two objects are two", Checks.town(x, PERSON) - new BoughtMondays().told(0), 1);
    }

    private static void feed() {
        Doc.promise(2, "Twenty bytes come on the TAPE, of each number the highest first");
        BoughtMondays x = new BoughtMondays();
        // "pers", "on 1", "2 3;", "duty", " 9; "
        x.feed(0x70657273, 0x6f6e2031, 0x3220333b, 0x64757479, 0x20393b20);
        Checks.due("town(20)", x.town(20), 1);
        Checks.due("coins", x.person(0, 0), 12);
        Checks.due("wage", x.person(0, 1), 3);
        Checks.due("worth", x.duty(0, 0), 9);
        x.feed(-1, Integer.MIN_VALUE, 0, 0, 0);
        Checks.due("a byte of 255", x.town(20), -9);
        Checks.due("its place", x.fault(), 0);

        Doc.promise(2, "how many there are");
        BoughtMondays y = new BoughtMondays();
        for (int i = 1; i <= 30; i++) {
            Checks.due("feed " + i, y.feed(BLANKS, BLANKS, BLANKS, BLANKS, BLANKS), 20 * i);
        }

        Doc.promise(2, "NONE, doing nothing, if there would be more than 600.");
        for (int i = 0; i < 3; i++) {
            Checks.due("feed on a full tape", y.feed(0x64757479, 0x20313b20, BLANKS, BLANKS, BLANKS), -1);
            Checks.due("count(1)", y.count(1), 600);
        }
        Checks.due("status(0)", y.status(0), 0);
        Checks.due("status(1)", y.status(1), 0);
        Checks.due("what was on it is as it was", y.town(600), 0);
        Checks.due("duties", y.told(1), 0);
        Checks.due("an empty tape takes bytes again", y.feed(BLANKS, BLANKS, BLANKS, BLANKS, BLANKS), 20);
    }

    private static void town() {
        Doc.promise(3, "The first n bytes of the TAPE (empty then) are the TOWN");
        BoughtMondays x = new BoughtMondays();
        Checks.feed(x, "duty 1;duty 2;duty 3;");
        Checks.due("town(14)", x.town(14), 0);
        Checks.due("two duties", x.told(1), 2);
        Checks.due("the tape is empty", x.count(1), 0);
        Checks.argument(x, "town(1)", () -> x.town(1));
        Checks.feed(x, "duty 4;duty 5;");
        Checks.due("a new tape, town(7)", x.town(7), 0);
        Checks.due("its first bytes", x.duty(0, 0), 4);
        Checks.feed(x, "duty 4;");
        Checks.due("a fault", x.town(3), -9);
        Checks.due("the tape is empty behind a fault, too", x.count(1), 0);

        smallerTowns();

        Doc.promise(3, "(WEEK 0; no LAW, BOOK, IMAGES, nothing to undo)");
        BoughtMondays y = lived();
        Checks.due("town", Checks.town(y, "person 50 3;person 9 1;duty 2;task 0 1 1;"), 2);
        int[] due = {2, 1, 1, 0, 0, 0, 0, 59, 0, 0, 0};
        for (int what = 0; what <= 10; what++) {
            Checks.due("told(" + what + ")", y.told(what), due[what]);
        }
        int[] person = {50, 3, 0, 0, 0, -1, 0};
        for (int what = 0; what <= 6; what++) {
            Checks.due("person(0, " + what + ")", y.person(0, what), person[what]);
        }
        Checks.due("no law", y.price(0), 5);
        Checks.due("no line of the book", y.apart(0, 1, 1), -1);
        Checks.due("no images", y.count(0), 0);
        Checks.due("restore()", y.restore(), -1);
        Checks.due("nothing to undo", y.count(2), 0);
        Checks.due("undo()", y.undo(), -1);
        Checks.due("task 0 is as told", y.task(0, 1), 1);
        Checks.due("refusals are kept", y.status(1), 1);

        Doc.promise(3, "how many PERSONS");
        for (int n = 0; n <= 6; n++) {
            Checks.due(n + " persons", Checks.town(y, Checks.times(n, PERSON)), n);
        }

        Doc.promise(3, "or the FAULT less 10 (all stays).");
        Checks.readsIn("", "town", "x", 1 - 10, 0);
        Checks.readsIn("", "town", "duty 31;", 2 - 10, 5);
        Checks.readsIn("", "town", Checks.times(7, DUTY), 3 - 10, 42);
        RefusalEdges.faultLeavesAll("town", "person 1 1;duty 2;x");

        Doc.promise(3, "IllegalArgumentException: n is not 0 to the TAPE's bytes (it stays).");
        textLengths("town", 600);
    }

    /** Nothing of a full town that has been lived in is left in a smaller one behind it. */
    private static void smallerTowns() {
        StringBuilder full = new StringBuilder();
        for (int i = 0; i < 6; i++) {
            full.append("person 500 30;duty 30;task ").append(i).append(" 0 9;task ").append(i).append(" 2 9;");
        }
        for (int p = 0; p < 6; p++) {
            full.append("can ").append(p).append(" 0;can ").append(p).append(' ').append(p).append(';');
        }
        for (String small : new String[] {"", "duty 2;", PERSON, "person 9 1;duty 2;", "person 9 1;task 0 5 1;",
            "person 9 1;person 8 2;duty 2;duty 3;can 0 0;can 0 1;can 1 1;task 1 2 3;"}) {
            BoughtMondays x = Checks.made(full.toString());
            Checks.work(x, "buy 0;buy 1;later 1;week;");
            Checks.work(x, "buy 0;buy 5;");
            Checks.book(x, "0 6;1 6;");
            Checks.due("a full town answers all that is asked", seen(x).size(), 202);
            Checks.due("town " + small, Checks.town(x, small), small.split("person", -1).length - 1);
            if (small.equals(PERSON)) {
                Checks.due("no task is left", x.next(0, 0), -1);
                Checks.due("no fine is left", x.debt(0), 0);
                Checks.due("no Monday is taken", x.clear(0, 3), 7);
                Checks.law(x, "0");
                Checks.work(x, "buy 0;");
                Checks.due("nothing is due", x.due(), 0);
                Checks.town(x, small);
            }
            String due = seen(Checks.made(small + " ")).toString();
            Checks.holds("the town is like new: " + due, due.equals(seen(x).toString()));
        }
    }

    private static List<Integer> seen(BoughtMondays x) {
        List<Integer> all = new ArrayList<>();
        for (int what = 0; what <= 10; what++) {
            all.add(x.told(what));
        }
        for (int p = 0; p < x.told(0); p++) {
            for (int what = 0; what <= 6; what++) {
                all.add(x.person(p, what));
            }
            all.addAll(List.of(x.price(p), x.next(p, 0), x.debt(p), x.clear(p, 20), x.skips(p, 5, 1), x.spare(p, 9),
                    x.back(p), x.share(p, (1 << x.told(0)) - 1, 50)));
        }
        for (int d = 0; d < x.told(1); d++) {
            all.addAll(List.of(x.duty(d, 0), x.duty(d, 1), x.giver(d)));
        }
        for (int t = 0; t < x.told(2); t++) {
            all.addAll(List.of(x.task(t, 0), x.task(t, 1), x.task(t, 2), x.task(t, 3), x.span(3, 9, 9, 9, 9, 2, t)));
        }
        for (int what = 0; what <= 1; what++) {
            all.addAll(List.of(x.youngest(what), x.cheapest(what), x.crowd(what), x.richest(what), x.ahead(9, what)));
        }
        all.addAll(List.of(x.left(), x.given(), x.missed(), x.due(), x.lone(), x.rush(), x.loses(9),
                x.stay((1 << x.told(1)) - 1), x.ahead(9, 2), x.year(3, 9, 9, 9, 0), x.year(3, 9, 9, 9, 2),
                x.year(3, 9, 9, 9, 3), x.year(3, 9, 9, 9, 4)));
        return all;
    }

    /** An object with a law, a book, images, works, refused steps and refused calls. */
    private static BoughtMondays lived() {
        BoughtMondays y = Checks.made("person 90 3;person 90 1;duty 2;task 0 0 1;");
        Checks.law(y, "1");
        Checks.book(y, "0 6;1 6;");
        Checks.work(y, "later 0;buy 0;sell 1;week;");
        y.image();
        Checks.work(y, "buy 1;sell 0;");
        Checks.argument(y, "told(11)", () -> y.told(11));
        return y;
    }

    /** What n a text takes: 0 to the bytes of the tape, and to its most. */
    private static void textLengths(String kind, int most) {
        for (int bytes : new int[] {0, 20, 580, 600}) {
            int last = Math.min(bytes, most);
            for (int n : new int[] {-1, last + 1, 601, Integer.MIN_VALUE, Integer.MAX_VALUE}) {
                BoughtMondays x = taped(bytes);
                Checks.argument(x, kind + "(" + n + ") of " + bytes, () -> readBytes(x, kind, n));
                Checks.due("the tape stays", x.count(1), bytes);
                Checks.due("and can be read", readBytes(x, kind, last) >= 0 || kind.equals("law") ? 1 : 0, 1);
            }
            for (int n : new int[] {0, last}) {
                BoughtMondays x = taped(bytes);
                Checks.due(kind + "(" + n + ") of " + bytes, readBytes(x, kind, n), kind.equals("law") ? -9 : 0);
                Checks.due("the tape is empty", x.count(1), 0);
            }
        }
    }

    private static BoughtMondays taped(int bytes) {
        BoughtMondays x = new BoughtMondays();
        Checks.feed(x, Checks.times(bytes, " "));
        return x;
    }

    private static int readBytes(BoughtMondays x, String kind, int n) {
        switch (kind) {
            case "town":
                return x.town(n);
            case "law":
                return x.law(n);
            case "work":
                return x.work(n);
            default:
                return x.book(n);
        }
    }

    private static void law() {
        Doc.promise(4, "Likewise the LAW (n to 150): 1.");
        textLengths("law", 150);
        BoughtMondays x = Checks.made(PERSON);
        Checks.feed(x, "12");
        Checks.due("one byte of two", x.law(1), 1);
        Checks.due("the tape is empty", x.count(1), 0);
        Checks.due("its price", x.price(0), 1);
        Checks.reads(x, "law", "1+", -9, 2);
        Checks.due("the tape is empty behind a fault, too", x.count(1), 0);
        Checks.reads(x, "law", "1+1000", -8, 2);
        Checks.reads(x, "law", "(((((((", -7, 6);
        Checks.due("the law stays", x.price(0), 1);
        Checks.reads(x, "law", "2", 1, -1);
        Checks.due("the new law", x.price(0), 2);
        RefusalEdges.faultLeavesAll("law", "7+7+");
        BoughtMondays y = lived();
        Checks.due("a law in the midst", Checks.law(y, "7"), 1);
        Checks.due("images stay", y.count(0), 1);
        Checks.due("works stay", y.count(2), 2);
        Checks.due("the book stays", y.told(9), 2);
        Checks.due("the week stays", y.told(3), 1);
        Checks.due("steps refused stay", y.told(10), 1);
    }

    private static void work() {
        Doc.promise(5, "Likewise WORK (n to 150), which is done");
        textLengths("work", 150);
        BoughtMondays x = Checks.made("person 90 1;task 0 5 1;");
        Checks.feed(x, "week;week;week;");
        Checks.due("two steps of three", x.work(10), 2);
        Checks.due("the week", x.told(3), 2);
        Checks.due("the tape is empty", x.count(1), 0);

        Doc.promise(5, "how many STEPS were done (agains not counted, nor REFUSED ones)");
        Checks.reads(x, "work", "again 2[again 2[week;];];", 4, -1);
        Checks.reads(x, "work", "buy 0;buy 0;sell 0;sell 0;", 2, -1);
        Checks.due("two were refused", x.told(10), 2);
        Checks.reads(x, "work", "later 0;", 0, -1);

        Doc.promise(5, "or the FAULT less 10 (none is)");
        int week = x.told(3);
        Checks.reads(x, "work", "week;x", 1 - 10, 5);
        Checks.reads(x, "work", "week;buy 1;", 2 - 10, 9);
        Checks.reads(x, "work", "week;again 1[again 1[again 1[again 1[again 1[again 1[again", 3 - 10, 53);
        Checks.due("no week went by", x.told(3), week);
        Checks.due("works", x.count(2), 4);
        Checks.due("the tape is empty behind a fault, too", x.count(1), 0);
        RefusalEdges.faultLeavesAll("work", "week;buy 0;x");

        fullWorks();
    }

    private static void fullWorks() {
        Doc.promise(5, "-20 ahead of that (nothing is read, there is no FAULT, the TAPE is empty then): "
                + "16 WORKS are there that were not undone.");
        BoughtMondays y = Checks.made("person 90 1;");
        for (int i = 1; i <= 16; i++) {
            Checks.due("work " + i, Checks.work(y, i == 16 ? "week;sell 0;" : "week;"), 1);
        }
        Checks.due("sixteen works", y.count(2), 16);
        Checks.reads(y, "law", "x", -9, 0);
        Checks.reads(y, "work", "week;", -20, -1);
        Checks.reads(y, "law", "x", -9, 0);
        Checks.reads(y, "work", "week;x", -20, -1);
        Checks.reads(y, "work", "", -20, -1);
        Checks.due("the tape is empty", y.count(1), 0);
        Checks.due("the week", y.told(3), 16);
        Checks.due("steps refused by the latest work", y.told(10), 1);
        Checks.due("works", y.count(2), 16);
        Checks.due("no call was refused", y.status(0) + y.status(1), 0);
        Checks.feed(y, "week;");
        Checks.argument(y, "work(21)", () -> y.work(21));
        Checks.argument(y, "work(-1)", () -> y.work(-1));
        Checks.due("the tape stays", y.count(1), 20);
        Checks.due("undo()", y.undo(), 15);
        Checks.due("fifteen: one more is done", y.work(5), 1);
        Checks.reads(y, "work", "week;", -20, -1);
        Checks.due("undo()", y.undo(), 15);
        Checks.reads(y, "work", "x", -9, 0);
        Checks.reads(y, "work", "", 0, -1);
        Checks.reads(y, "work", "", -20, -1);
        for (int i = 15; i >= 0; i--) {
            Checks.due("undo()", y.undo(), i);
            Checks.due("the week", y.told(3), i);
        }
    }

    private static void book() {
        Doc.promise(6, "Likewise the BOOK (n to 60): how many lines.");
        textLengths("book", 60);
        BoughtMondays x = Checks.made(Checks.times(6, PERSON));
        StringBuilder lines = new StringBuilder();
        for (int n = 0; n <= 6; n++) {
            Checks.reads(x, "book", lines.toString(), n, -1);
            Checks.due("told(9)", x.told(9), n);
            lines.append(n).append(" 7;");
        }
        Checks.reads(x, "book", "0 7;1 7;2 7", -9, 11);
        Checks.reads(x, "book", "0 7;1 141;", -8, 6);
        Checks.due("lines stay", x.told(9), 6);
        Checks.due("days stay", x.together(4, 5, 1), 1);
        Checks.reads(x, "book", "0 6;1 6;", 2, -1);
        Checks.due("a new book drops the old lines", x.together(4, 5, 1), -1);
        Checks.feed(x, "0 6;1 6;");
        Checks.due("one line of two", x.book(4), 1);
        Checks.due("the tape is empty", x.count(1), 0);
        RefusalEdges.faultLeavesAll("book", "0 18;1 18;2");
        BoughtMondays y = lived();
        Checks.due("a book in the midst", Checks.book(y, "0 1;"), 1);
        Checks.due("images stay", y.count(0), 1);
        Checks.due("works stay", y.count(2), 2);
        Checks.due("the law stays", y.price(0), 1);
    }

    private static void fault() {
        Doc.promise(7, "The place of the FAULT of the latest text; NONE without.");
        BoughtMondays x = new BoughtMondays();
        Checks.due("without a text", x.fault(), -1);
        Checks.reads(x, "town", "duty 0;", -8, 5);
        Checks.argument(x, "law(1)", () -> x.law(1));
        Checks.argument(x, "town(-1)", () -> x.town(-1));
        Checks.feed(x, "1 1");
        x.image();
        x.restore();
        x.undo();
        Checks.due("no text since", x.fault(), 5);
        Checks.due("a law", x.law(3), -9);
        Checks.due("the latest", x.fault(), 2);
        Checks.reads(x, "book", "", 0, -1);
        Checks.reads(x, "work", "week;x", -9, 5);
        Checks.reads(x, "work", "week;", 1, -1);
        Checks.reads(x, "law", "1+", -9, 2);
        Checks.reads(x, "law", "1", 1, -1);
        Checks.reads(x, "town", "x", -9, 0);
        Checks.reads(x, "town", "", 0, -1);
    }
}
