/** Promises 1 to 7: the tape, the four texts, and the place of a fault. */
public final class TextsTest {
    private TextsTest() {
    }

    public static void main(String[] args) {
        newObject();
        feed();
        town();
        townFaults();
        townLimits();
        law();
        lawFaults();
        work();
        workFaults();
        book();
        fault();
        Checks.end("TextsTest");
    }

    private static void newObject() {
        BoughtMondays x = new BoughtMondays();
        for (int what = 0; what <= 10; what++) {
            Checks.due("told(" + what + ") of a new object", x.told(what), 0);
        }
        Checks.due("fault() of a new object", x.fault(), -1);
        for (int what = 0; what <= 2; what++) {
            Checks.due("count(" + what + ") of a new object", x.count(what), 0);
        }
        Checks.due("status(0) of a new object", x.status(0), 0);
        Checks.due("status(1) of a new object", x.status(1), 0);
        Checks.due("work(0) of a new object", x.work(0), 0);
        Checks.due("week without persons", Checks.work(x, "week;"), 1);
        Checks.due("told(3)", x.told(3), 1);
        Checks.due("law without a town", Checks.law(x, "week + 3"), 1);
        Checks.due("would by it", x.would(4, 0, 0, 0, 0, 0, 0, 0), 7);
    }

    private static void feed() {
        BoughtMondays x = new BoughtMondays();
        for (int i = 1; i <= 30; i++) {
            Checks.due("feed " + i, x.feed(0x20202020, 0x20202020, 0x20202020, 0x20202020, 0x20202020), 20 * i);
        }
        Checks.due("feed beyond 600", x.feed(0, 0, 0, 0, 0), -1);
        Checks.due("count(1) then", x.count(1), 600);
        Checks.due("a town of 600 blanks", x.town(600), 0);
        Checks.due("count(1) behind it", x.count(1), 0);
        // "duty", " 7;p", "erso", "n 1 ", "2;\377\200"
        Checks.due("feed of bytes", x.feed(0x64757479, 0x20373b70, 0x6572736f, 0x6e203120, 0x323bff80), 20);
        Checks.due("the highest byte comes first", x.town(18), 1);
        Checks.due("worth", x.duty(0, 0), 7);
        Checks.due("wage", x.person(0, 1), 2);
        x.feed(0x64757479, 0x20373b70, 0x6572736f, 0x6e203120, 0x323bff80);
        Checks.due("a byte of 255 can't stand there", x.town(20), -9);
        Checks.due("its place", x.fault(), 18);
        x.feed(0x64757479, 0x2037b3b0, 0, 0, 0);
        Checks.due("a byte of 179 is no digit or sign", x.town(20), -9);
        Checks.due("its place", x.fault(), 6);
    }

    private static void town() {
        BoughtMondays x = Checks.made("  person007 0 ;duty 1;can 0 0;can 0 0;task0 60 60;  ");
        Checks.due("coins", x.person(0, 0), 7);
        Checks.due("skills", x.person(0, 4), 1);
        Checks.due("monday", x.task(0, 1), 60);
        Checks.due("fine", x.task(0, 2), 60);
        Checks.law(x, "1");
        Checks.work(x, "week;sell 0;");
        Checks.book(x, "0 3;");
        x.image();
        Checks.due("told(10) ahead of the town", x.told(10), 1);
        Checks.feed(x, "duty 1;");
        Checks.argument(x, "town(21)", () -> x.town(21));
        Checks.argument(x, "town(-1)", () -> x.town(-1));
        Checks.due("the tape stays", x.count(1), 20);
        Checks.due("the week stays", x.told(3), 1);
        Checks.due("a fault", x.town(6), -9);
        Checks.due("the tape is empty", x.count(1), 0);
        Checks.due("the week stays behind a fault", x.told(3), 1);
        Checks.due("persons stay", x.told(0), 1);
        Checks.due("lines stay", x.told(9), 1);
        Checks.due("images stay", x.count(0), 1);
        Checks.due("works stay", x.count(2), 1);
        Checks.due("the law stays", x.price(0), 1);
        Checks.due("told(10) stays", x.told(10), 1);
        Checks.due("two persons", Checks.town(x, "person 500 30;person 0 0;"), 2);
        int[] due = {2, 0, 0, 0, 0, 0, 0, 500, 0, 0, 0};
        for (int what = 0; what <= 10; what++) {
            Checks.due("told(" + what + ") of the new town", x.told(what), due[what]);
        }
        Checks.due("no images", x.count(0), 0);
        Checks.due("no works", x.count(2), 0);
        Checks.due("undo()", x.undo(), -1);
        Checks.due("restore()", x.restore(), -1);
        Checks.due("no law", x.price(0), 5);
        Checks.due("status is kept", x.status(1), 2);
        Checks.due("an empty town", x.town(0), 0);
        Checks.due("its persons", x.told(0), 0);
    }

    private static void fault(String text, int answer, int place) {
        BoughtMondays x = new BoughtMondays();
        Checks.due("town '" + text + "'", Checks.town(x, text), answer);
        Checks.due("fault of town '" + text + "'", x.fault(), place);
    }

    private static void townFaults() {
        fault("person 1 1;persom 1 1;", -9, 11);
        fault("Person 1 1;", -9, 0);
        fault("person 1 1", -9, 10);
        fault("person 1 1   ", -9, 13);
        fault("person 1", -9, 8);
        fault("  perso", -9, 2);
        fault(";", -9, 0);
        fault("5;", -9, 0);
        fault("person 1 ;", -9, 9);
        fault("person -1 1;", -9, 7);
        fault("person 1 1 1;", -9, 11);
        fault("person 1x 1;", -9, 8);
        fault("person  501 x", -8, 8);
        fault("person 500 31;", -8, 11);
        fault("person 99999999999999999999999 1;", -8, 7);
        fault("person 4294967297 1;", -8, 7);
        fault("duty 0;", -8, 5);
        fault("duty 31;", -8, 5);
        fault("duty 00030;", 0, -1);
        fault("can 0 0;", -8, 4);
        fault("duty 1;can 0 0;", -8, 11);
        fault("duty 1;person 0 0;can 0 1;", -8, 24);
        fault("duty 1;person 0 0;can 1 0;", -8, 22);
        fault("duty 1;person 0 0;can 0 0 0;", -9, 26);
        fault("person 0 0;task 1 0 0;", -8, 16);
        fault("person 0 0;task 0 61 0;", -8, 18);
        fault("person 0 0;task 0 60 61;", -8, 21);
        fault("person 0 0;task 0 60;", -9, 20);
        fault("person\t1 1;", -9, 6);
    }

    private static void townLimits() {
        String person = "person 0 0;";
        fault(Checks.times(6, person), 6, -1);
        fault(Checks.times(6, person) + "person", -7, 66);
        fault(Checks.times(6, person) + " persons", -9, 67);
        fault(Checks.times(6, "duty 1;") + "duty 0;", -7, 42);
        fault(person + Checks.times(12, "task 0 0 0;"), 1, -1);
        fault(person + Checks.times(12, "task 0 0 0;") + "task 9;", -7, 143);
        String ahead = person + "duty 1;";
        fault(ahead + Checks.times(58, "can 0 0;"), 1, -1);
        fault(ahead + Checks.times(58, "can 0 0;") + " can 9", -7, 18 + 58 * 8 + 1);
        fault(ahead + Checks.times(58, "can 0 0;") + " cann", -9, 18 + 58 * 8 + 1);
        fault(ahead + Checks.times(58, "can 0 0;") + "  ", 1, -1);
    }

    private static void law() {
        BoughtMondays x = Checks.made("person 0 0;");
        String[] laws = {"5", "5", "2+3*4", "14", "(2+3)*4", "20", "20-3-4", "13", "60/7/2", "4", "60%7*2", "8",
            "7/0", "0", "7%0+3", "3", "least[4,9]", "4", "most [ 4 , 9 ]", "9", "least[most[1,8],3+4]", "7",
            "0-5", "0", "999", "99", "100", "99", "99", "99", "(0-7)/2+9", "6", "(0-7)%2+9", "8", "7%(0-2)", "1",
            "999*999*999*999", "0", "((((((8))))))", "8", "week", "1", "sold", "2", "skipped", "3", "coins", "4",
            "wage", "5", "needed", "6", "tasks", "7", "person", "0", " 007 ", "7", "2*3%4", "2", "9-2*3", "3"};
        for (int i = 0; i < laws.length; i += 2) {
            Checks.due("law " + laws[i], Checks.law(x, laws[i]), 1);
            Checks.due("would by " + laws[i], x.would(1, 2, 3, 4, 5, 6, 7, 0), Integer.parseInt(laws[i + 1]));
        }
        // 2,147,483,648 wraps to the least number; by -1 it is itself, and nothing is left
        String least = "512*512*512*16";
        Checks.law(x, "0-(" + least + ")/(0-1)/99999");
        Checks.due("999 is the greatest number", x.fault(), 25);
        Checks.law(x, "0-(" + least + ")/(0-1)/999/999/100");
        Checks.due("the least number by -1", x.would(0, 0, 0, 0, 0, 0, 0, 0), 21);
        Checks.law(x, "7+(" + least + ")%(0-1)");
        Checks.due("the least number, left by -1", x.would(0, 0, 0, 0, 0, 0, 0, 0), 7);
        Checks.law(x, least + "-1-" + "999*999*999");
        Checks.due("it wraps", x.would(0, 0, 0, 0, 0, 0, 0, 0), 99);
        Checks.feed(x, Checks.times(152, " "));
        Checks.argument(x, "law(151)", () -> x.law(151));
        Checks.argument(x, "law(-1)", () -> x.law(-1));
        Checks.due("the tape stays", x.count(1), 160);
        Checks.due("a law of blanks", x.law(150), -9);
        Checks.due("it ends too early", x.fault(), 150);
        Checks.argument(x, "law(1)", () -> x.law(1));
        Checks.feed(x, "55");
        Checks.due("one byte of two", x.law(1), 1);
        Checks.due("its price", x.price(0), 5);
        Checks.feed(x, "weeks");
        Checks.due("four bytes of five", x.law(4), 1);
        Checks.due("a law of 150 bytes", Checks.law(x, "1" + Checks.times(74, "+1") + " "), 1);
        Checks.due("its price", x.price(0), 75);
    }

    private static void lawFault(String text, int answer, int place) {
        BoughtMondays x = Checks.made("person 0 0;");
        Checks.law(x, "33");
        Checks.due("law '" + text + "'", Checks.law(x, text), answer);
        Checks.due("fault of law '" + text + "'", x.fault(), place);
        Checks.due("the price stays behind '" + text + "'", x.price(0), answer == 1 ? x.price(0) : 33);
    }

    private static void lawFaults() {
        lawFault("", -9, 0);
        lawFault("1+", -9, 2);
        lawFault("1 2", -9, 2);
        lawFault("1 1000", -9, 2);
        lawFault("+1", -9, 0);
        lawFault("-1", -9, 0);
        lawFault("1++2", -9, 2);
        lawFault("1000", -8, 0);
        lawFault(" 0999", 1, -1);
        lawFault("(1", -9, 2);
        lawFault("(1]", -9, 2);
        lawFault("1)", -9, 1);
        lawFault("()", -9, 1);
        lawFault("least", -9, 5);
        lawFault("least(1,2)", -9, 5);
        lawFault("least[1]", -9, 7);
        lawFault("least[1,2", -9, 9);
        lawFault("least[1,2,3]", -9, 9);
        lawFault("most[,2]", -9, 5);
        lawFault("weeks", -9, 0);
        lawFault("5week", -9, 1);
        lawFault("week5", -9, 4);
        lawFault("Week", -9, 0);
        lawFault("1 ;", -9, 2);
        lawFault("((((((1", -9, 7);
        lawFault("(((((( (1)))))))", -7, 7);
        lawFault("((((((least", -7, 6);
        lawFault("((((((lest", -9, 6);
        lawFault("(((((most[(1),2])))))", -7, 10);
        lawFault("(((((1)))))+((((((1))))))", 1, -1);
        lawFault("(((((1)))))+(((((((1)))))))", -7, 18);
        lawFault("least[(1),least[(1),least[(1),least[1,least[1,most[1,2]]]]]]", 1, -1);
        lawFault("least[1,least[1,least[1,least[1,least[1,most[1,(2)]]]]]]", -7, 47);
        lawFault("least[least[least[least[least[most[1,2],2],2],2],2],2]", 1, -1);
        lawFault("least[least[least[least[least[most[(1),2],2],2],2],2],2]", -7, 35);
    }

    private static void work() {
        BoughtMondays x = Checks.made("person 20 1;person 20 0;task 0 1 3;");
        Checks.due("an empty work", x.work(0), 0);
        Checks.due("is one that can be undone", x.count(2), 1);
        Checks.due("steps", Checks.work(x, " buy 0 ; buy 0;sell 1;later0;week ; "), 3);
        Checks.due("refused", x.told(10), 2);
        Checks.due("again", Checks.work(x, "again 3 [week;again 2 [buy 1;sell 1;];];"), 15);
        x.undo();
        Checks.due("six deep", Checks.work(x, "again 1[again 1[again 1[again 1[again 1[again 3[week;];];];];];];"), 3);
        Checks.due("again 0", Checks.work(x, "again 0[week;];again 60[];"), 0);
        Checks.due("the week", x.told(3), 4);
        Checks.due("200 steps, an again too", Checks.work(x, "again 60[week;week;week;week;];"), 199);
        Checks.due("the week then", x.told(3), 203);
        Checks.due("again inside again", Checks.work(x, "again 60[again 1[week;week;week;];];week;"), 97);
        Checks.due("week 300", x.told(3), 300);
        Checks.due("refused in it", x.told(10), 52);
        Checks.due("no more weeks", Checks.work(x, "week;week;"), 0);
        Checks.due("refused then", x.told(10), 2);
        Checks.due("seven works", x.count(2), 7);
        for (int i = 8; i <= 16; i++) {
            Checks.due("work " + i, Checks.work(x, "buy 7;"), -8);
            Checks.due("refused stays behind a fault", x.told(10), i == 8 ? 2 : 1);
            Checks.due("work " + i, Checks.work(x, "week;"), 0);
        }
        Checks.due("a fault", Checks.work(x, "buy 7;"), -20);
        Checks.due("is not read", x.fault(), -1);
        Checks.due("the tape is empty", x.count(1), 0);
        Checks.due("refused stays", x.told(10), 1);
        Checks.argument(x, "work(1)", () -> x.work(1));
        Checks.due("undo()", x.undo(), 15);
        Checks.due("a work again", Checks.work(x, ""), 0);
        Checks.due("and no more", Checks.work(x, ""), -20);
    }

    private static void workFault(String text, int answer, int place) {
        BoughtMondays x = Checks.made("person 20 1;task 0 1 3;");
        Checks.due("work '" + text + "'", Checks.work(x, text), answer);
        Checks.due("fault of work '" + text + "'", x.fault(), place);
        Checks.due("weeks behind '" + text + "'", x.told(3), 0);
        Checks.due("works behind '" + text + "'", x.count(2), answer < 0 ? 0 : 1);
    }

    private static void workFaults() {
        workFault("week", -9, 4);
        workFault("week;week", -9, 9);
        workFault("week;weak;", -9, 5);
        workFault("week 1;", -9, 5);
        workFault("week;]", -9, 5);
        workFault("week;buy;", -9, 8);
        workFault("week;buy 1;", -8, 9);
        workFault("week;sell 1;", -8, 10);
        workFault("week;later 1;", -8, 11);
        workFault("week;again 61[];", -8, 11);
        workFault("again 1;", -9, 7);
        workFault("again [];", -9, 6);
        workFault("again 1[week]", -9, 12);
        workFault("again 1[week;", -9, 13);
        workFault("again 1[week;] ", -9, 15);
        workFault("again 1[week;]week;", -9, 14);
        workFault("again 0[again 0[again 0[again 0[again 0[again 0[];];];];];];", 0, -1);
        workFault("again 0[again 0[again 0[again 0[again 0[again 0[ again", -7, 49);
        workFault("again 0[again 0[again 0[again 0[again 0[again 0[];again 0[];];];];];];again 0[];", 0, -1);
        workFault("again 0[again 0[again 0[again 0[again 0[again 0[];again 0[again 0", -7, 58);
        BoughtMondays x = Checks.made("person 20 1;");
        Checks.feed(x, Checks.times(30, "week;") + "week;");
        Checks.argument(x, "work(151)", () -> x.work(151));
        Checks.due("a work of 150 bytes", x.work(150), 30);
    }

    private static void book() {
        BoughtMondays x = Checks.made(Checks.times(6, "person 0 0;"));
        Checks.due("six lines", Checks.book(x, "5 140;4 0;3 1; 2 2 ;1 3;0 4; "), 6);
        Checks.due("told(9)", x.told(9), 6);
        String[] texts = {"6 0;", "-8", "0", "0 141;", "-8", "2", "0 1;1 1;0 1;", "-8", "8", "0 1", "-9", "3",
            "0;", "-9", "1", "a 1;", "-9", "0", "0 1;;", "-9", "4", "0 1;1 1;2 1;3 1;4 1;5 1;6 1;", "-8", "24",
            "0 1;1 1;2 1;3 1;4 1;5 1;5 1;", "-8", "24", "0 1;1 1;2 1;3 1;4 1;5 1;x", "-9", "24", "0 1;0x", "-8", "4"};
        for (int i = 0; i < texts.length; i += 3) {
            Checks.due("book " + texts[i], Checks.book(x, texts[i]), Integer.parseInt(texts[i + 1]));
            Checks.due("fault of book " + texts[i], x.fault(), Integer.parseInt(texts[i + 2]));
            Checks.due("lines stay behind " + texts[i], x.told(9), 6);
        }
        Checks.feed(x, Checks.times(61, " "));
        Checks.argument(x, "book(61)", () -> x.book(61));
        Checks.argument(x, "book(-1)", () -> x.book(-1));
        Checks.due("a book of 60 bytes", x.book(60), 0);
        Checks.due("an empty book", x.book(0), 0);
        Checks.due("without persons", Checks.book(new BoughtMondays(), "0 0;"), -8);
    }

    private static void fault() {
        BoughtMondays x = new BoughtMondays();
        Checks.town(x, "dutie 1;");
        Checks.due("fault()", x.fault(), 0);
        Checks.law(x, "1+");
        Checks.due("fault() of the latest", x.fault(), 2);
        Checks.argument(x, "law(1)", () -> x.law(1));
        x.feed(0, 0, 0, 0, 0);
        x.undo();
        x.image();
        x.restore();
        Checks.due("fault() stays without a text", x.fault(), 2);
        Checks.due("book(0)", x.book(0), 0);
        Checks.due("fault() behind a text without", x.fault(), -1);
    }
}
