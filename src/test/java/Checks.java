import java.util.NoSuchElementException;
import java.util.function.LongSupplier;

/** What the tests share: feeding texts, and counting answers that are not as due. */
final class Checks {
    private static int asked = 0;
    private static int wrong = 0;
    private static volatile String about = "";

    private Checks() {
    }

    /** What the document says that the checks from now on hold; it is told with what is wrong. */
    static void about(String words) {
        about = words;
    }

    /** A call that does not end is a failure, not a wait: the test is stopped behind so many seconds. */
    static void within(int seconds) {
        Thread watch = new Thread(() -> {
            try {
                Thread.sleep(seconds * 1000L);
            } catch (InterruptedException e) {
                return;
            }
            System.out.println(about + ": not ended within " + seconds + " seconds");
            Runtime.getRuntime().halt(1);
        });
        watch.setDaemon(true);
        watch.start();
    }

    static void due(String call, long got, long want) {
        asked++;
        if (got != want) {
            wrong++;
            System.out.println((about.isEmpty() ? "" : about + ": ") + call + " answered " + got + ", due is " + want);
        }
    }

    static void holds(String claim, boolean isSo) {
        due(claim, isSo ? 1 : 0, 1);
    }

    /** The call throws NoSuchElementException, and just that count grows. */
    static void missing(BoughtMondays x, String call, LongSupplier body) {
        refused(x, call, body, NoSuchElementException.class, 0);
    }

    /** The call throws IllegalArgumentException, and just that count grows. */
    static void argument(BoughtMondays x, String call, LongSupplier body) {
        refused(x, call, body, IllegalArgumentException.class, 1);
    }

    private static void refused(BoughtMondays x, String call, LongSupplier body, Class<?> kind, int what) {
        int before = x.status(what);
        int otherBefore = x.status(1 - what);
        Class<?> thrown = null;
        try {
            body.getAsLong();
        } catch (RuntimeException e) {
            thrown = e.getClass();
        }
        holds(call + " throws " + kind.getSimpleName() + " (it threw " + thrown + ")", thrown == kind);
        due(call + " counted", x.status(what), before + 1);
        due(call + " counted otherwise", x.status(1 - what), otherBefore);
    }

    /** Puts a text on an empty tape: how many bytes it has. */
    static int feed(BoughtMondays x, String text) {
        int n = text.length();
        for (int i = 0; i < n; i += 20) {
            int[] five = new int[5];
            for (int k = 0; k < 20; k++) {
                int sign = i + k < n ? text.charAt(i + k) : 0;
                five[k / 4] = five[k / 4] << 8 | sign;
            }
            x.feed(five[0], five[1], five[2], five[3], five[4]);
        }
        return n;
    }

    static int town(BoughtMondays x, String text) {
        return x.town(feed(x, text));
    }

    static int law(BoughtMondays x, String text) {
        return x.law(feed(x, text));
    }

    static int work(BoughtMondays x, String text) {
        return x.work(feed(x, text));
    }

    static int book(BoughtMondays x, String text) {
        return x.book(feed(x, text));
    }

    /** Reads a text: its answer and the place of its fault are as due. */
    static void reads(BoughtMondays x, String kind, String text, int answer, int place) {
        due(kind + " '" + text + "'", read(x, kind, text), answer);
        due("fault() of " + kind + " '" + text + "'", x.fault(), place);
    }

    /** The same on an object of its own, in a town that is told first. */
    static void readsIn(String townText, String kind, String text, int answer, int place) {
        reads(townText.isEmpty() ? new BoughtMondays() : made(townText), kind, text, answer, place);
    }

    private static int read(BoughtMondays x, String kind, String text) {
        switch (kind) {
            case "town":
                return town(x, text);
            case "law":
                return law(x, text);
            case "work":
                return work(x, text);
            default:
                return book(x, text);
        }
    }

    static BoughtMondays made(String townText) {
        BoughtMondays x = new BoughtMondays();
        int answer = town(x, townText);
        holds("the town " + townText + " is one (" + answer + " at " + x.fault() + ")", answer >= 0);
        return x;
    }

    /** Lets so many weeks go by, 199 a work. */
    static void pass(BoughtMondays x, int weeks) {
        int week = x.told(3);
        for (int gone = 0; gone < weeks; gone += 199) {
            int n = Math.min(199, weeks - gone);
            work(x, "again " + n / 4 + "[week;week;week;week;];" + times(n % 4, "week;"));
        }
        due("weeks that went by", x.told(3) - week, weeks);
    }

    static String times(int n, String part) {
        return part.repeat(n);
    }

    static void end(String test) {
        System.out.println(test + ": " + asked + " answers, " + wrong + " not as due");
        if (wrong != 0 || asked == 0) {
            System.exit(1);
        }
    }
}
