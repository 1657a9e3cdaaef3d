import java.util.NoSuchElementException;

/** A town whose Mondays may be bought off. The document numbers the promises that this class keeps. */
public final class BoughtMondays {
    public static final int NONE = -1;

    private static final int MAX_PERSONS = 6;
    private static final int MAX_DUTIES = 6;
    private static final int MAX_TASKS = 12;
    private static final int MAX_COINS = 999;
    private static final int MAX_WAGE = 30;
    private static final int LAST_MONDAY = 60;
    private static final int LAST_WEEK = 300;
    private static final int MAX_WEEKS_AHEAD = 99;
    private static final int MAX_OPEN = 6;

    private static final int MAX_TAPE = 600;
    private static final int MAX_LAW = 150;
    private static final int MAX_WORK = 150;
    private static final int MAX_BOOK = 60;
    private static final int MAX_WORKS = 16;
    private static final int MAX_IMAGES = 3;
    private static final int TOO_MANY_WORKS = -20;

    private final Text text = new Text();
    private final Town town = new Town();
    private final Town townDraft = new Town();
    private final Law law = new Law();
    private final Law lawDraft = new Law();
    private final Book book = new Book();
    private final Book bookDraft = new Book();
    private final Plan plan = new Plan();
    private final Life now = new Life(town, law);
    private final Life trial = new Life(town, law);
    private final Giving giving = new Giving(town);
    private final SkipSearch skipSearch = new SkipSearch(town, law);
    private final Year trialYear = new Year(trial);
    private final Shelf works = new Shelf();
    private final Shelf[] images = new Shelf[MAX_IMAGES];
    private int imageCount = 0;
    private int missingRefusals = 0;
    private int argumentRefusals = 0;

    public BoughtMondays() {
        for (int i = 0; i < MAX_IMAGES; i++) {
            images[i] = new Shelf();
        }
        now.begin();
    }

    // ---- texts ----

    public int feed(int a, int b, int c, int d, int e) {
        if (!text.hasRoomFor(20)) {
            return NONE;
        }
        text.addBytesOf(a);
        text.addBytesOf(b);
        text.addBytesOf(c);
        text.addBytesOf(d);
        text.addBytesOf(e);
        return text.size;
    }

    public int town(int n) throws IllegalArgumentException {
        needText(n, MAX_TAPE);
        text.beginReading(n);
        townDraft.readFrom(text);
        if (text.flawed()) {
            return text.flawAnswer();
        }
        town.copyFrom(townDraft);
        law.drop();
        book.drop();
        plan.forgetRefused();
        works.drop();
        imageCount = 0;
        now.begin();
        return town.persons;
    }

    public int law(int n) throws IllegalArgumentException {
        needText(n, MAX_LAW);
        text.beginReading(n);
        lawDraft.readFrom(text);
        if (text.flawed()) {
            return text.flawAnswer();
        }
        law.copyFrom(lawDraft);
        return 1;
    }

    public int work(int n) throws IllegalArgumentException {
        needText(n, MAX_WORK);
        text.beginReading(n);
        if (works.height >= MAX_WORKS) {
            return TOO_MANY_WORKS;
        }
        plan.readFrom(text, town);
        if (text.flawed()) {
            return text.flawAnswer();
        }
        works.push(now);
        return plan.runOn(now);
    }

    public int book(int n) throws IllegalArgumentException {
        needText(n, MAX_BOOK);
        text.beginReading(n);
        bookDraft.readFrom(text, town.persons);
        if (text.flawed()) {
            return text.flawAnswer();
        }
        book.copyFrom(bookDraft);
        return book.lines;
    }

    public int fault() {
        return text.flawPlace;
    }

    public int undo() {
        if (!works.popInto(now)) {
            return NONE;
        }
        plan.forgetRefused();
        return works.height;
    }

    // ---- what is told of the town ----

    public int told(int what) throws IllegalArgumentException {
        needWithin(what, 0, 10);
        switch (what) {
            case 0:
                return town.persons;
            case 1:
                return town.duties;
            case 2:
                return town.tasks;
            case 3:
                return now.week;
            case 4:
                return now.boughtBits();
            case 5:
                return now.done;
            case 6:
                return now.lost;
            case 7:
                return now.coinsOfAll();
            case 8:
                return now.daysOfAll();
            case 9:
                return book.lines;
            default:
                return plan.refused;
        }
    }

    public int person(int person, int what) throws NoSuchElementException, IllegalArgumentException {
        needPerson(person);
        needWithin(what, 0, 6);
        switch (what) {
            case 0:
                return now.coins[person];
            case 1:
                return town.wage[person];
            case 2:
                return now.days[person];
            case 3:
                return now.skipped[person];
            case 4:
                return town.skills[person];
            case 5:
                return now.paid[person];
            default:
                return now.fined[person];
        }
    }

    public int duty(int duty, int what) throws NoSuchElementException, IllegalArgumentException {
        needDuty(duty);
        needWithin(what, 0, 1);
        return what == 0 ? town.worth[duty] : town.ableBits(duty);
    }

    public int task(int task, int what) throws NoSuchElementException, IllegalArgumentException {
        needTask(task);
        needWithin(what, 0, 3);
        switch (what) {
            case 0:
                return town.owner[task];
            case 1:
                return now.monday[task];
            case 2:
                return town.fine[task];
            default:
                return now.isDone(task) ? 1 : 0;
        }
    }

    // ---- prices ----

    public int price(int person) throws NoSuchElementException {
        needPerson(person);
        return now.priceFor(person);
    }

    public int would(int week, int sold, int skipped, int coins, int wage, int needed, int tasks, int person)
            throws IllegalArgumentException {
        needWithin(week, 0, LAST_WEEK);
        needWithin(sold, 0, MAX_PERSONS - 1);
        needWithin(skipped, 0, 999);
        needWithin(coins, 0, MAX_COINS);
        needWithin(wage, 0, MAX_WAGE);
        needWithin(needed, 0, MAX_DUTIES);
        needWithin(tasks, 0, MAX_TASKS);
        needWithin(person, 0, MAX_PERSONS - 1);
        int[] seen = law.seen;
        seen[Law.WEEK] = week;
        seen[Law.SOLD] = sold;
        seen[Law.SKIPPED] = skipped;
        seen[Law.COINS] = coins;
        seen[Law.WAGE] = wage;
        seen[Law.NEEDED] = needed;
        seen[Law.TASKS] = tasks;
        seen[Law.PERSON] = person;
        return law.priceOfSeen();
    }

    public boolean can(int person) throws NoSuchElementException {
        needPerson(person);
        return now.canBuy(person);
    }

    public int cheapest(int what) throws IllegalArgumentException {
        needWithin(what, 0, 1);
        int best = NONE;
        int bestPrice = NONE;
        for (int p = 0; p < town.persons; p++) {
            if (!now.hasBought(p)) {
                int itsPrice = now.priceFor(p);
                if (best == NONE || itsPrice < bestPrice) {
                    best = p;
                    bestPrice = itsPrice;
                }
            }
        }
        return what == 0 ? best : bestPrice;
    }

    public int rush() {
        trial.copyFrom(now);
        for (int p = 0; p < town.persons; p++) {
            trial.buyOff(p);
        }
        return trial.boughtBits();
    }

    public int back(int person) throws NoSuchElementException {
        needPerson(person);
        return now.hasBought(person) ? now.paid[person] / 2 : NONE;
    }

    // ---- weeks ahead ----

    public int ahead(int n, int what) throws IllegalArgumentException {
        needWithin(n, 0, MAX_WEEKS_AHEAD);
        needWithin(what, 0, 2);
        tryWeeks(n);
        switch (what) {
            case 0:
                return trial.coinsOfAll();
            case 1:
                return trial.daysOfAll();
            default:
                return trial.done;
        }
    }

    public int loses(int n) throws IllegalArgumentException {
        needWithin(n, 0, MAX_WEEKS_AHEAD);
        tryWeeks(n);
        return trial.lost - now.lost;
    }

    public int spare(int person, int n) throws NoSuchElementException, IllegalArgumentException {
        needPerson(person);
        needWithin(n, 0, MAX_WEEKS_AHEAD);
        return Math.min(MAX_COINS, now.coins[person] + n * town.wage[person]);
    }

    public int skips(int person, int n, int what) throws NoSuchElementException, IllegalArgumentException {
        needPerson(person);
        needWithin(n, 0, SkipSearch.MAX_MONDAYS);
        needWithin(what, 0, 1);
        skipSearch.searchFor(now, person, n);
        return what == 0 ? skipSearch.bestCount : skipSearch.bestSet;
    }

    public int year(int seed, int weeks, int q, int r, int what) throws IllegalArgumentException {
        needYear(weeks, q, r);
        needWithin(what, 0, 4);
        trialYear.liveFrom(now, seed, weeks, q, r);
        switch (what) {
            case 0:
                return trial.coinsOfAll();
            case 1:
                return trial.daysOfAll();
            case 2:
                return trial.lost - now.lost;
            case 3:
                return trialYear.bought;
            default:
                return trial.done;
        }
    }

    public int span(int seed, int many, int weeks, int q, int r, int what, int task) throws IllegalArgumentException {
        needWithin(many, 1, 20);
        needYear(weeks, q, r);
        needWithin(what, 0, 2);
        needWithin(task, 0, town.tasks - 1);
        int least = 0;
        int most = 0;
        int finished = 0;
        for (int i = 0; i < many; i++) {
            trialYear.liveFrom(now, seed + i, weeks, q, r);
            int lost = trial.lost - now.lost;
            least = i == 0 ? lost : Math.min(least, lost);
            most = Math.max(most, lost);
            finished += trial.isDone(task) ? 1 : 0;
        }
        switch (what) {
            case 0:
                return least;
            case 1:
                return most;
            default:
                return finished;
        }
    }

    // ---- duties ----

    public int left() {
        return now.leftBy(now.stayingBits());
    }

    public int stay(int duties) throws IllegalArgumentException {
        needWithin(duties, 0, bitsBelow(town.duties));
        int best = NONE;
        int bestCount = MAX_PERSONS + 1;
        int everyone = bitsBelow(town.persons);
        for (int set = 0; set <= everyone; set++) {
            int members = Integer.bitCount(set);
            if (members < bestCount && (duties & ~town.skillsOf(set)) == 0) {
                best = set;
                bestCount = members;
            }
        }
        return best;
    }

    public int given() {
        return giving.giveTo(now.stayingBits());
    }

    public int giver(int duty) throws NoSuchElementException {
        needDuty(duty);
        giving.giveTo(now.stayingBits());
        return giving.givers[duty];
    }

    public int lone() {
        int bits = 0;
        for (int d = 0; d < town.duties; d++) {
            if (Integer.bitCount(town.ableBits(d)) == 1) {
                bits |= 1 << d;
            }
        }
        return bits;
    }

    // ---- tasks ----

    public int next(int person, int what) throws NoSuchElementException, IllegalArgumentException {
        needPerson(person);
        needWithin(what, 0, 1);
        int best = NONE;
        for (int t = 0; t < town.tasks; t++) {
            if (town.owner[t] == person && now.isAhead(t)
                    && (best == NONE || now.monday[t] < now.monday[best])) {
                best = t;
            }
        }
        if (best == NONE) {
            return NONE;
        }
        return what == 0 ? best : now.monday[best] - now.week;
    }

    public int missed() {
        int bits = 0;
        for (int t = 0; t < town.tasks; t++) {
            if (!now.isDone(t) && now.monday[t] < now.week) {
                bits |= 1 << t;
            }
        }
        return bits;
    }

    public int due() {
        trial.copyFrom(now);
        int paid = 0;
        for (int t = 0; t < town.tasks; t++) {
            if (trial.fallsNow(t) && trial.hasBought(town.owner[t])) {
                paid += trial.payFine(t);
            }
        }
        return paid;
    }

    public int debt(int person) throws NoSuchElementException {
        needPerson(person);
        int sum = 0;
        for (int t = 0; t < town.tasks; t++) {
            if (town.owner[t] == person && now.isAhead(t)) {
                sum += town.fine[t];
            }
        }
        return sum;
    }

    public int crowd(int what) throws IllegalArgumentException {
        needWithin(what, 0, 1);
        int best = NONE;
        int most = 0;
        for (int m = 0; m <= LAST_MONDAY; m++) {
            int many = now.openTasksOn(m);
            if (many > most) {
                best = m;
                most = many;
            }
        }
        if (best == NONE) {
            return NONE;
        }
        return what == 0 ? best : most;
    }

    public int clear(int person, int n) throws NoSuchElementException, IllegalArgumentException {
        needPerson(person);
        needWithin(n, 0, 20);
        return bitsBelow(n) & ~now.busyBits(person, n);
    }

    // ---- two who met ----

    public int apart(int person, int other, int n) throws NoSuchElementException, IllegalArgumentException {
        needTwo(person, other, n);
        if (!book.hasBoth(person, other)) {
            return NONE;
        }
        int ones = book.mondaysHad(person, n);
        int others = book.mondaysHad(other, n);
        if (ones == NONE || others == NONE) {
            return 0;
        }
        return (int) (choose(n, ones) * choose(n - ones, others));
    }

    public int together(int person, int other, int n) throws NoSuchElementException, IllegalArgumentException {
        needTwo(person, other, n);
        if (!book.hasBoth(person, other)) {
            return NONE;
        }
        int ones = book.mondaysHad(person, n);
        int others = book.mondaysHad(other, n);
        if (ones == NONE || others == NONE) {
            return NONE;
        }
        return Math.max(0, ones + others - n);
    }

    public long met(int n, int q, int part) throws IllegalArgumentException {
        needWithin(n, 0, 7);
        needWithin(q, 0, 16);
        needWithin(part, 0, 1);
        long all = 1;
        long never = 1;
        for (int i = 0; i < n; i++) {
            all *= 256;
            never *= 256 - q * q;
        }
        long above = all - never;
        long below = all;
        // below is a power of two, so halving is all that least terms need
        for (int i = 0; i < 56 && below % 2 == 0 && above % 2 == 0; i++) {
            above /= 2;
            below /= 2;
        }
        return part == 0 ? above : below;
    }

    public int open(int v, int w, int what) throws IllegalArgumentException {
        needWithin(v, 0, 99);
        needWithin(w, 0, 99);
        needWithin(what, 0, 2);
        int rests = 0;
        int first = NONE;
        int gain = 0;
        for (int one = 0; one <= 1; one++) {
            for (int other = 0; other <= 1; other++) {
                int ones = shopHas(one, other, v, w);
                int others = shopHas(other, one, v, w);
                if (shopHas(1 - one, other, v, w) <= ones && shopHas(1 - other, one, v, w) <= others) {
                    if (rests == 0) {
                        first = 10 * one + other;
                        gain = ones + others;
                    }
                    rests++;
                }
            }
        }
        switch (what) {
            case 0:
                return rests;
            case 1:
                return first;
            default:
                return gain;
        }
    }

    // ---- age and coins ----

    public int share(int person, int persons, int n) throws NoSuchElementException, IllegalArgumentException {
        needPerson(person);
        needWithin(persons, 0, bitsBelow(town.persons));
        needWithin(n, 0, 9999);
        if ((persons >> person & 1) == 0) {
            return 0;
        }
        int low = 0;
        int high = now.mostDays();
        // the sum never falls as the bound grows: halve the range of bounds
        for (int turn = 0; turn < 32 && low < high; turn++) {
            int middle = (low + high + 1) / 2;
            if (now.daysUpTo(middle, persons) <= n) {
                low = middle;
            } else {
                high = middle - 1;
            }
        }
        return Math.min(now.days[person], low);
    }

    public int youngest(int what) throws IllegalArgumentException {
        needWithin(what, 0, 1);
        int best = NONE;
        for (int p = 0; p < town.persons; p++) {
            if (best == NONE || now.days[p] < now.days[best]) {
                best = p;
            }
        }
        return what == 0 || best == NONE ? best : now.days[best];
    }

    public int richest(int what) throws IllegalArgumentException {
        needWithin(what, 0, 1);
        int best = NONE;
        for (int p = 0; p < town.persons; p++) {
            if (best == NONE || now.coins[p] > now.coins[best]) {
                best = p;
            }
        }
        return what == 0 || best == NONE ? best : now.coins[best];
    }

    // ---- images and counts ----

    public int image() {
        if (imageCount >= MAX_IMAGES) {
            return NONE;
        }
        images[imageCount].copyFrom(works);
        images[imageCount].push(now);
        imageCount++;
        return imageCount;
    }

    public int restore() {
        if (imageCount <= 0) {
            return NONE;
        }
        imageCount--;
        images[imageCount].popInto(now);
        works.copyFrom(images[imageCount]);
        plan.forgetRefused();
        return imageCount;
    }

    public int status(int what) {
        switch (what) {
            case 0:
                return missingRefusals;
            case 1:
                return argumentRefusals;
            default:
                return NONE;
        }
    }

    public int count(int what) {
        switch (what) {
            case 0:
                return imageCount;
            case 1:
                return text.size;
            case 2:
                return works.height;
            default:
                return NONE;
        }
    }

    // ---- refusals ----

    private void refuseMissing() {
        missingRefusals++;
        throw new NoSuchElementException("no such person, duty or task");
    }

    private void refuseArgument() {
        argumentRefusals++;
        throw new IllegalArgumentException("an argument is out of its range");
    }

    private void needWithin(int value, int least, int most) {
        if (value < least || value > most) {
            refuseArgument();
        }
    }

    private void needText(int n, int most) {
        needWithin(n, 0, Math.min(text.size, most));
    }

    private void needPerson(int person) {
        if (person < 0 || person >= town.persons) {
            refuseMissing();
        }
    }

    private void needDuty(int duty) {
        if (duty < 0 || duty >= town.duties) {
            refuseMissing();
        }
    }

    private void needTask(int task) {
        if (task < 0 || task >= town.tasks) {
            refuseMissing();
        }
    }

    private void needTwo(int person, int other, int n) {
        needPerson(person);
        needPerson(other);
        if (person == other) {
            refuseArgument();
        }
        needWithin(n, 0, 20);
    }

    private void needYear(int weeks, int q, int r) {
        needWithin(weeks, 1, 96);
        needWithin(q, 0, 16);
        needWithin(r, 0, 16);
    }

    // ---- help ----

    private void tryWeeks(int n) {
        trial.copyFrom(now);
        for (int i = 0; i < n; i++) {
            trial.passWeek();
        }
    }

    private static int bitsBelow(int n) {
        return (1 << n) - 1;
    }

    /** How many sets of k there are among n (both at most 20, so a long holds every step). */
    private static long choose(int n, int k) {
        if (k < 0 || k > n) {
            return 0;
        }
        long ways = 1;
        for (int i = 1; i <= k; i++) {
            ways = ways * (n - k + i) / i;
        }
        return ways;
    }

    /** What a shop has that does mine (0 open, 1 shut), the other one doing theirs. */
    private static int shopHas(int mine, int theirs, int v, int w) {
        if (mine == 0) {
            return theirs == 0 ? v : w;
        }
        return theirs == 0 ? -1 : 0;
    }

    /** The tape, and the reading of its first bytes as a text; the first flaw found stays. */
    private static final class Text {
        static final int CANT_STAND = 1;
        static final int NO_SUCH_NUMBER = 2;
        static final int TOO_MANY = 3;
        /** Above every bound of the document, and ten times it still fits. */
        private static final int HUGE = 1000000;

        private final byte[] bytes = new byte[MAX_TAPE];
        int size = 0;
        private int end = 0;
        private int at = 0;
        private int flaw = 0;
        int flawPlace = NONE;
        /** Where the latest word or number began. */
        int tokenPlace = 0;

        boolean hasRoomFor(int more) {
            return size + more <= MAX_TAPE;
        }

        void addBytesOf(int number) {
            for (int shift = 24; shift >= 0 && size < MAX_TAPE; shift -= 8) {
                bytes[size] = (byte) (number >> shift);
                size++;
            }
        }

        /** The tape counts as empty from now on; its bytes stay readable until the next feed. */
        void beginReading(int n) {
            end = n;
            size = 0;
            at = 0;
            flaw = 0;
            flawPlace = NONE;
        }

        boolean flawed() {
            return flaw != 0;
        }

        /** Where the sign stands that was looked at. */
        int signPlace() {
            return at;
        }

        int flawAnswer() {
            return flaw - 10;
        }

        void noteFlaw(int kind, int place) {
            if (flaw == 0) {
                flaw = kind;
                flawPlace = place;
            }
        }

        /** The sign behind blanks, NONE at the end. */
        int peekSign() {
            while (at < end && bytes[at] == ' ') {
                at++;
            }
            return at < end ? bytes[at] & 255 : NONE;
        }

        boolean atEnd() {
            return peekSign() == NONE;
        }

        boolean atDigit() {
            return isDigit(peekSign());
        }

        boolean takeSign(char sign) {
            if (flaw != 0 || peekSign() != sign) {
                return false;
            }
            at++;
            return true;
        }

        void expectSign(char sign) {
            if (flaw != 0) {
                return;
            }
            if (peekSign() == sign) {
                at++;
            } else {
                noteFlaw(CANT_STAND, at);
            }
        }

        void expectEnd() {
            if (flaw == 0 && !atEnd()) {
                noteFlaw(CANT_STAND, at);
            }
        }

        int readNumber(int least, int most) {
            if (flaw != 0) {
                return NONE;
            }
            if (!atDigit()) {
                noteFlaw(CANT_STAND, at);
                return NONE;
            }
            tokenPlace = at;
            int value = 0;
            while (at < end && isDigit(bytes[at])) {
                value = Math.min(HUGE, value * 10 + bytes[at] - '0');
                at++;
            }
            if (value < least || value > most) {
                noteFlaw(NO_SUCH_NUMBER, tokenPlace);
                return NONE;
            }
            return value;
        }

        /** Which of the names (a blank between two) stands here; any other is a flaw. */
        int readWord(String names) {
            if (flaw != 0) {
                return NONE;
            }
            peekSign();
            tokenPlace = at;
            int to = at;
            while (to < end && bytes[to] >= 'a' && bytes[to] <= 'z') {
                to++;
            }
            int index = indexAmong(names, at, to);
            if (index == NONE) {
                noteFlaw(CANT_STAND, at);
            } else {
                at = to;
            }
            return index;
        }

        private int indexAmong(String names, int from, int to) {
            int index = 0;
            int place = from;
            boolean same = true;
            for (int i = 0; i <= names.length(); i++) {
                char sign = i < names.length() ? names.charAt(i) : ' ';
                if (sign == ' ') {
                    if (same && place == to) {
                        return index;
                    }
                    index++;
                    place = from;
                    same = true;
                } else if (place < to && bytes[place] == sign) {
                    place++;
                } else {
                    same = false;
                }
            }
            return NONE;
        }

        private static boolean isDigit(int sign) {
            return sign >= '0' && sign <= '9';
        }
    }

    /** What a TOWN text tells; no work changes it. */
    private static final class Town {
        private static final String CLAUSES = "person duty can task";
        private static final int MAX_CLAUSES = 60;

        int persons = 0;
        int duties = 0;
        int tasks = 0;
        final int[] coins = new int[MAX_PERSONS];
        final int[] wage = new int[MAX_PERSONS];
        /** Duties that a person can do, as bits. */
        final int[] skills = new int[MAX_PERSONS];
        final int[] worth = new int[MAX_DUTIES];
        final int[] owner = new int[MAX_TASKS];
        final int[] monday = new int[MAX_TASKS];
        final int[] fine = new int[MAX_TASKS];

        void copyFrom(Town other) {
            persons = other.persons;
            duties = other.duties;
            tasks = other.tasks;
            System.arraycopy(other.coins, 0, coins, 0, MAX_PERSONS);
            System.arraycopy(other.wage, 0, wage, 0, MAX_PERSONS);
            System.arraycopy(other.skills, 0, skills, 0, MAX_PERSONS);
            System.arraycopy(other.worth, 0, worth, 0, MAX_DUTIES);
            System.arraycopy(other.owner, 0, owner, 0, MAX_TASKS);
            System.arraycopy(other.monday, 0, monday, 0, MAX_TASKS);
            System.arraycopy(other.fine, 0, fine, 0, MAX_TASKS);
        }

        /** Persons who can do a duty, as bits. */
        int ableBits(int duty) {
            int bits = 0;
            for (int p = 0; p < persons; p++) {
                if ((skills[p] >> duty & 1) != 0) {
                    bits |= 1 << p;
                }
            }
            return bits;
        }

        /** Duties that somebody of a set of persons can do, as bits. */
        int skillsOf(int set) {
            int bits = 0;
            for (int p = 0; p < persons; p++) {
                if ((set >> p & 1) != 0) {
                    bits |= skills[p];
                }
            }
            return bits;
        }

        void readFrom(Text text) {
            persons = 0;
            duties = 0;
            tasks = 0;
            // one turn more than clauses may be: it finds the clause that is too many
            for (int told = 0; told <= MAX_CLAUSES && !text.flawed() && !text.atEnd(); told++) {
                int word = text.readWord(CLAUSES);
                if (told >= MAX_CLAUSES) {
                    text.noteFlaw(Text.TOO_MANY, text.tokenPlace);
                }
                readClause(text, word);
                text.expectSign(';');
            }
        }

        private void readClause(Text text, int word) {
            switch (word) {
                case 0:
                    readPerson(text);
                    break;
                case 1:
                    readDuty(text);
                    break;
                case 2:
                    readSkill(text);
                    break;
                case 3:
                    readTask(text);
                    break;
                default:
                    break;
            }
        }

        private void readPerson(Text text) {
            if (persons >= MAX_PERSONS) {
                text.noteFlaw(Text.TOO_MANY, text.tokenPlace);
            }
            int itsCoins = text.readNumber(0, 500);
            int itsWage = text.readNumber(0, MAX_WAGE);
            if (!text.flawed()) {
                coins[persons] = itsCoins;
                wage[persons] = itsWage;
                skills[persons] = 0;
                persons++;
            }
        }

        private void readDuty(Text text) {
            if (duties >= MAX_DUTIES) {
                text.noteFlaw(Text.TOO_MANY, text.tokenPlace);
            }
            int itsWorth = text.readNumber(1, 30);
            if (!text.flawed()) {
                worth[duties] = itsWorth;
                duties++;
            }
        }

        private void readSkill(Text text) {
            int itsPerson = text.readNumber(0, persons - 1);
            int itsDuty = text.readNumber(0, duties - 1);
            if (!text.flawed()) {
                skills[itsPerson] |= 1 << itsDuty;
            }
        }

        private void readTask(Text text) {
            if (tasks >= MAX_TASKS) {
                text.noteFlaw(Text.TOO_MANY, text.tokenPlace);
            }
            int itsOwner = text.readNumber(0, persons - 1);
            int itsMonday = text.readNumber(0, LAST_MONDAY);
            int itsFine = text.readNumber(0, 60);
            if (!text.flawed()) {
                owner[tasks] = itsOwner;
                monday[tasks] = itsMonday;
                fine[tasks] = itsFine;
                tasks++;
            }
        }
    }

    /** A LAW as codes in the order in which they are worked off on a stack. */
    private static final class Law {
        static final int WEEK = 0;
        static final int SOLD = 1;
        static final int SKIPPED = 2;
        static final int COINS = 3;
        static final int WAGE = 4;
        static final int NEEDED = 5;
        static final int TASKS = 6;
        static final int PERSON = 7;
        private static final int NAMES = 8;
        private static final String WORDS = "week sold skipped coins wage needed tasks person least most";
        private static final int LEAST_WORD = 8;

        private static final int MAX_PRICE = 99;
        private static final int MAX_NUMBER = 999;
        // codes up to MAX_NUMBER are numbers, those from FIRST_NAME on names, the others operators
        private static final int FIRST_NAME = 1000;
        private static final int PLUS = 2000;
        private static final int MINUS = 2001;
        private static final int TIMES = 2002;
        private static final int BY = 2003;
        private static final int REST = 2004;
        private static final int LEAST = 2005;
        private static final int MOST = 2006;

        private final int[] codes = new int[MAX_LAW];
        /** 0: there is no law. */
        private int length = 0;
        private final int[] stack = new int[MAX_LAW];
        /** What the names stand for, put here ahead of each question. */
        final int[] seen = new int[NAMES];

        void drop() {
            length = 0;
        }

        void copyFrom(Law other) {
            length = other.length;
            System.arraycopy(other.codes, 0, codes, 0, MAX_LAW);
        }

        void readFrom(Text text) {
            length = 0;
            readSum(text, 0);
            text.expectEnd();
        }

        private void emit(int code) {
            if (length < MAX_LAW) {
                codes[length] = code;
                length++;
            }
        }

        private void readSum(Text text, int open) {
            readProduct(text, open);
            for (int turn = 0; turn < MAX_LAW && !text.flawed(); turn++) {
                int code = text.takeSign('+') ? PLUS : text.takeSign('-') ? MINUS : NONE;
                if (code == NONE) {
                    return;
                }
                readProduct(text, open);
                emit(code);
            }
        }

        private void readProduct(Text text, int open) {
            readUnit(text, open);
            for (int turn = 0; turn < MAX_LAW && !text.flawed(); turn++) {
                int code = text.takeSign('*') ? TIMES : text.takeSign('/') ? BY : text.takeSign('%') ? REST : NONE;
                if (code == NONE) {
                    return;
                }
                readUnit(text, open);
                emit(code);
            }
        }

        private void readUnit(Text text, int open) {
            if (text.flawed()) {
                return;
            }
            if (text.atDigit()) {
                emit(text.readNumber(0, MAX_NUMBER));
            } else if (text.peekSign() == '(') {
                readBracket(text, open);
            } else {
                readName(text, open);
            }
        }

        private void readBracket(Text text, int open) {
            if (open >= MAX_OPEN) {
                text.noteFlaw(Text.TOO_MANY, text.signPlace());
                return;
            }
            text.expectSign('(');
            readSum(text, open + 1);
            text.expectSign(')');
        }

        private void readName(Text text, int open) {
            int word = text.readWord(WORDS);
            if (word == NONE) {
                return;
            }
            if (word < NAMES) {
                emit(FIRST_NAME + word);
                return;
            }
            if (open >= MAX_OPEN) {
                text.noteFlaw(Text.TOO_MANY, text.tokenPlace);
                return;
            }
            text.expectSign('[');
            readSum(text, open + 1);
            text.expectSign(',');
            readSum(text, open + 1);
            text.expectSign(']');
            emit(word == LEAST_WORD ? LEAST : MOST);
        }

        int priceOfSeen() {
            int value = 5 + seen[SOLD] * 3 + seen[SKIPPED];
            int top = 0;
            for (int i = 0; i < length; i++) {
                int code = codes[i];
                if (code >= PLUS) {
                    // what was read leaves two values for each operator
                    if (top >= 2) {
                        top--;
                        stack[top - 1] = combined(code, stack[top - 1], stack[top]);
                    }
                } else if (top < MAX_LAW) {
                    stack[top] = valueOf(code);
                    top++;
                }
            }
            if (top > 0) {
                value = stack[0];
            }
            return Math.max(0, Math.min(MAX_PRICE, value));
        }

        private int valueOf(int code) {
            int name = code - FIRST_NAME;
            return name >= 0 && name < NAMES ? seen[name] : code;
        }

        private static int combined(int code, int a, int b) {
            switch (code) {
                case PLUS:
                    return a + b;
                case MINUS:
                    return a - b;
                case TIMES:
                    return a * b;
                case BY:
                    return b == 0 ? 0 : a / b;
                case REST:
                    return b == 0 ? 0 : a % b;
                case LEAST:
                    return a <= b ? a : b;
                default:
                    return a >= b ? a : b;
            }
        }
    }

    /** What a BOOK text tells: days lived, by persons. */
    private static final class Book {
        private static final int MAX_DAYS = 140;

        int lines = 0;
        private int listed = 0;
        private final int[] days = new int[MAX_PERSONS];

        void drop() {
            lines = 0;
            listed = 0;
        }

        void copyFrom(Book other) {
            lines = other.lines;
            listed = other.listed;
            System.arraycopy(other.days, 0, days, 0, MAX_PERSONS);
        }

        void readFrom(Text text, int persons) {
            drop();
            for (int turn = 0; turn <= MAX_PERSONS && !text.flawed() && !text.atEnd(); turn++) {
                int itsPerson = text.readNumber(0, persons - 1);
                if (itsPerson != NONE && hasLine(itsPerson)) {
                    text.noteFlaw(Text.NO_SUCH_NUMBER, text.tokenPlace);
                }
                int itsDays = text.readNumber(0, MAX_DAYS);
                text.expectSign(';');
                if (!text.flawed()) {
                    days[itsPerson] = itsDays;
                    listed |= 1 << itsPerson;
                    lines++;
                }
            }
        }

        private boolean hasLine(int person) {
            return (listed >> person & 1) != 0;
        }

        boolean hasBoth(int person, int other) {
            return hasLine(person) && hasLine(other);
        }

        /** How many Mondays a listed person had in n weeks; NONE: nobody can have lived so many days. */
        int mondaysHad(int person, int n) {
            int had = days[person] - 6 * n;
            return had >= 0 && had <= n ? had : NONE;
        }
    }

    /** A WORK as rows of steps, and what came of the latest one that was done. */
    private static final class Plan {
        private static final String WORDS = "buy sell later week again";
        private static final int BUY = 0;
        private static final int SELL = 1;
        private static final int LATER = 2;
        private static final int WEEK = 3;
        private static final int AGAIN = 4;
        private static final int MAX_BEGUN = 200;
        private static final int MAX_AGAIN = 60;
        /** A step takes five bytes at least, with its semicolon. */
        private static final int MAX_STEPS = MAX_WORK / 5;

        private int length = 0;
        private final int[] kind = new int[MAX_STEPS];
        private final int[] number = new int[MAX_STEPS];
        /** Where the step behind this one stands (behind its loop, for an again). */
        private final int[] behind = new int[MAX_STEPS];
        private int begun = 0;
        private int succeeded = 0;
        int refused = 0;

        void forgetRefused() {
            refused = 0;
        }

        void readFrom(Text text, Town town) {
            length = 0;
            readSteps(text, town, 0);
        }

        private void readSteps(Text text, Town town, int open) {
            for (int turn = 0; turn <= MAX_STEPS && !text.flawed(); turn++) {
                if (open == 0 ? text.atEnd() : text.peekSign() == ']') {
                    return;
                }
                readStep(text, town, open);
                text.expectSign(';');
            }
        }

        private void readStep(Text text, Town town, int open) {
            int word = text.readWord(WORDS);
            int here = length;
            if (word == NONE || here >= MAX_STEPS) {
                return;
            }
            length++;
            kind[here] = word;
            number[here] = 0;
            if (word == BUY || word == SELL) {
                number[here] = text.readNumber(0, town.persons - 1);
            } else if (word == LATER) {
                number[here] = text.readNumber(0, town.tasks - 1);
            } else if (word == AGAIN) {
                readAgain(text, town, open, here);
            }
            behind[here] = length;
        }

        private void readAgain(Text text, Town town, int open, int here) {
            if (open >= MAX_OPEN) {
                text.noteFlaw(Text.TOO_MANY, text.tokenPlace);
                return;
            }
            number[here] = text.readNumber(0, MAX_AGAIN);
            text.expectSign('[');
            readSteps(text, town, open + 1);
            text.expectSign(']');
        }

        /** How many steps were done. */
        int runOn(Life life) {
            begun = 0;
            succeeded = 0;
            refused = 0;
            runSteps(life, 0, length, 0);
            return succeeded;
        }

        private void runSteps(Life life, int from, int to, int open) {
            if (open > MAX_OPEN) {
                return;
            }
            int here = from;
            for (int turn = 0; turn < MAX_STEPS && here < to && begun < MAX_BEGUN; turn++) {
                begun++;
                if (kind[here] == AGAIN) {
                    for (int i = 0; i < number[here] && begun < MAX_BEGUN; i++) {
                        runSteps(life, here + 1, behind[here], open + 1);
                    }
                } else if (stepSucceeds(life, kind[here], number[here])) {
                    succeeded++;
                } else {
                    refused++;
                }
                here = behind[here];
            }
        }

        private static boolean stepSucceeds(Life life, int kind, int number) {
            switch (kind) {
                case BUY:
                    return life.buyOff(number);
                case SELL:
                    return life.sellBack(number);
                case LATER:
                    return life.putOff(number);
                case WEEK:
                    return life.passWeekByWork();
                default:
                    return false;
            }
        }
    }

    /** All that work changes. */
    private static final class Life {
        /** Elements that a saved life takes: five rows of persons, one of tasks, three numbers. */
        static final int SAVED = 5 * MAX_PERSONS + MAX_TASKS + 3;

        private final Town town;
        private final Law law;
        int week = 0;
        int lost = 0;
        /** Tasks that are done, as bits. */
        int done = 0;
        final int[] coins = new int[MAX_PERSONS];
        final int[] days = new int[MAX_PERSONS];
        final int[] skipped = new int[MAX_PERSONS];
        /** What was paid for this Monday; NONE: it is not bought off. */
        final int[] paid = new int[MAX_PERSONS];
        final int[] fined = new int[MAX_PERSONS];
        final int[] monday = new int[MAX_TASKS];

        Life(Town town, Law law) {
            this.town = town;
            this.law = law;
        }

        void begin() {
            week = 0;
            lost = 0;
            done = 0;
            for (int p = 0; p < MAX_PERSONS; p++) {
                coins[p] = town.coins[p];
                days[p] = 0;
                skipped[p] = 0;
                paid[p] = NONE;
                fined[p] = 0;
            }
            System.arraycopy(town.monday, 0, monday, 0, MAX_TASKS);
        }

        void copyFrom(Life other) {
            week = other.week;
            lost = other.lost;
            done = other.done;
            System.arraycopy(other.coins, 0, coins, 0, MAX_PERSONS);
            System.arraycopy(other.days, 0, days, 0, MAX_PERSONS);
            System.arraycopy(other.skipped, 0, skipped, 0, MAX_PERSONS);
            System.arraycopy(other.paid, 0, paid, 0, MAX_PERSONS);
            System.arraycopy(other.fined, 0, fined, 0, MAX_PERSONS);
            System.arraycopy(other.monday, 0, monday, 0, MAX_TASKS);
        }

        void saveTo(int[] rows, int from) {
            System.arraycopy(coins, 0, rows, from, MAX_PERSONS);
            System.arraycopy(days, 0, rows, from + MAX_PERSONS, MAX_PERSONS);
            System.arraycopy(skipped, 0, rows, from + 2 * MAX_PERSONS, MAX_PERSONS);
            System.arraycopy(paid, 0, rows, from + 3 * MAX_PERSONS, MAX_PERSONS);
            System.arraycopy(fined, 0, rows, from + 4 * MAX_PERSONS, MAX_PERSONS);
            System.arraycopy(monday, 0, rows, from + 5 * MAX_PERSONS, MAX_TASKS);
            rows[from + SAVED - 3] = week;
            rows[from + SAVED - 2] = lost;
            rows[from + SAVED - 1] = done;
        }

        void loadFrom(int[] rows, int from) {
            System.arraycopy(rows, from, coins, 0, MAX_PERSONS);
            System.arraycopy(rows, from + MAX_PERSONS, days, 0, MAX_PERSONS);
            System.arraycopy(rows, from + 2 * MAX_PERSONS, skipped, 0, MAX_PERSONS);
            System.arraycopy(rows, from + 3 * MAX_PERSONS, paid, 0, MAX_PERSONS);
            System.arraycopy(rows, from + 4 * MAX_PERSONS, fined, 0, MAX_PERSONS);
            System.arraycopy(rows, from + 5 * MAX_PERSONS, monday, 0, MAX_TASKS);
            week = rows[from + SAVED - 3];
            lost = rows[from + SAVED - 2];
            done = rows[from + SAVED - 1];
        }

        // -- what can be seen --

        boolean hasBought(int person) {
            return paid[person] != NONE;
        }

        int boughtBits() {
            int bits = 0;
            for (int p = 0; p < town.persons; p++) {
                if (paid[p] != NONE) {
                    bits |= 1 << p;
                }
            }
            return bits;
        }

        int stayingBits() {
            return bitsBelow(town.persons) & ~boughtBits();
        }

        /** Duties that nobody of a set of persons can do, as bits. */
        int leftBy(int staying) {
            return bitsBelow(town.duties) & ~town.skillsOf(staying);
        }

        int coinsOfAll() {
            int sum = 0;
            for (int p = 0; p < town.persons; p++) {
                sum += coins[p];
            }
            return sum;
        }

        int daysOfAll() {
            return daysUpTo(mostDays(), bitsBelow(town.persons));
        }

        int mostDays() {
            int most = 0;
            for (int p = 0; p < town.persons; p++) {
                most = Math.max(most, days[p]);
            }
            return most;
        }

        /** Days lived by a set of persons together, no more than a bound of each. */
        int daysUpTo(int bound, int set) {
            int sum = 0;
            for (int p = 0; p < town.persons; p++) {
                if ((set >> p & 1) != 0) {
                    sum += Math.min(bound, days[p]);
                }
            }
            return sum;
        }

        boolean isDone(int task) {
            return (done >> task & 1) != 0;
        }

        /** Whether a task is not done and does not lie behind. */
        boolean isAhead(int task) {
            return !isDone(task) && monday[task] >= week;
        }

        boolean fallsNow(int task) {
            return monday[task] == week && (done >> task & 1) == 0;
        }

        int openTasksOn(int day) {
            int many = 0;
            for (int t = 0; t < town.tasks; t++) {
                if (!isDone(t) && monday[t] == day) {
                    many++;
                }
            }
            return many;
        }

        /** Of the next n Mondays those on which tasks of a person fall that are not done, as bits. */
        int busyBits(int person, int n) {
            int bits = 0;
            for (int t = 0; t < town.tasks; t++) {
                int weeksAway = monday[t] - week;
                if (town.owner[t] == person && !isDone(t) && weeksAway >= 0 && weeksAway < n) {
                    bits |= 1 << weeksAway;
                }
            }
            return bits;
        }

        private int tasksNow(int person) {
            int many = 0;
            for (int t = 0; t < town.tasks; t++) {
                if (town.owner[t] == person && fallsNow(t)) {
                    many++;
                }
            }
            return many;
        }

        int priceFor(int person) {
            int bought = boughtBits() & ~(1 << person);
            int others = bitsBelow(town.persons) & ~(1 << person) & ~bought;
            int[] seen = law.seen;
            seen[Law.WEEK] = week;
            seen[Law.SOLD] = Integer.bitCount(bought);
            seen[Law.SKIPPED] = skipped[person];
            seen[Law.COINS] = coins[person];
            seen[Law.WAGE] = town.wage[person];
            seen[Law.NEEDED] = Integer.bitCount(town.skills[person] & ~town.skillsOf(others));
            seen[Law.TASKS] = tasksNow(person);
            seen[Law.PERSON] = person;
            return law.priceOfSeen();
        }

        boolean canBuy(int person) {
            return !hasBought(person) && coins[person] >= priceFor(person);
        }

        // -- steps: false, and nothing changed, where one can't be done --

        boolean buyOff(int person) {
            if (hasBought(person)) {
                return false;
            }
            int itsPrice = priceFor(person);
            if (coins[person] < itsPrice) {
                return false;
            }
            coins[person] -= itsPrice;
            paid[person] = itsPrice;
            return true;
        }

        boolean sellBack(int person) {
            if (!hasBought(person)) {
                return false;
            }
            coins[person] += paid[person] / 2;
            paid[person] = NONE;
            return true;
        }

        boolean putOff(int task) {
            if (!isAhead(task) || monday[task] >= LAST_MONDAY) {
                return false;
            }
            monday[task]++;
            return true;
        }

        boolean passWeekByWork() {
            if (week >= LAST_WEEK) {
                return false;
            }
            passWeek();
            return true;
        }

        /** What is paid of the fine of a task, as far as coins last. */
        int payFine(int task) {
            int payer = town.owner[task];
            int part = Math.min(coins[payer], town.fine[task]);
            coins[payer] -= part;
            fined[payer] += part;
            return part;
        }

        void passWeek() {
            lost += worthOf(leftBy(stayingBits()));
            for (int t = 0; t < town.tasks; t++) {
                if (fallsNow(t)) {
                    if (hasBought(town.owner[t])) {
                        payFine(t);
                    } else {
                        done |= 1 << t;
                    }
                }
            }
            for (int p = 0; p < town.persons; p++) {
                if (hasBought(p)) {
                    days[p] += 6;
                    skipped[p]++;
                    paid[p] = NONE;
                } else {
                    days[p] += 7;
                    coins[p] = Math.min(MAX_COINS, coins[p] + town.wage[p]);
                }
            }
            week++;
        }

        private int worthOf(int duties) {
            int sum = 0;
            for (int d = 0; d < town.duties; d++) {
                if ((duties >> d & 1) != 0) {
                    sum += town.worth[d];
                }
            }
            return sum;
        }
    }

    /** A stack of saved lives. */
    private static final class Shelf {
        /** One more than works: in an image the state itself lies on top of the works. */
        private static final int MAX_HEIGHT = MAX_WORKS + 1;

        private final int[] rows = new int[MAX_HEIGHT * Life.SAVED];
        int height = 0;

        void drop() {
            height = 0;
        }

        void push(Life life) {
            if (height < MAX_HEIGHT) {
                life.saveTo(rows, height * Life.SAVED);
                height++;
            }
        }

        boolean popInto(Life life) {
            if (height <= 0) {
                return false;
            }
            height--;
            life.loadFrom(rows, height * Life.SAVED);
            return true;
        }

        void copyFrom(Shelf other) {
            height = other.height;
            System.arraycopy(other.rows, 0, rows, 0, height * Life.SAVED);
        }
    }

    /** Which duties are given to whom. */
    private static final class Giving {
        private static final int SETS = 1 << MAX_PERSONS;

        private final Town town;
        /** The most that duties from a row on can be worth, by the set of persons who may still be given one. */
        private final int[] best = new int[(MAX_DUTIES + 1) * SETS];
        final int[] givers = new int[MAX_DUTIES];

        Giving(Town town) {
            this.town = town;
        }

        /** Gives duties to a set of persons: what those given are worth together. */
        int giveTo(int staying) {
            fillBest();
            int free = staying;
            for (int d = 0; d < town.duties; d++) {
                givers[d] = firstGiver(d, free);
                if (givers[d] != NONE) {
                    free &= ~(1 << givers[d]);
                }
            }
            return best[staying];
        }

        private void fillBest() {
            int everyone = bitsBelow(town.persons);
            for (int set = 0; set <= everyone; set++) {
                best[town.duties * SETS + set] = 0;
            }
            for (int d = town.duties - 1; d >= 0; d--) {
                for (int set = 0; set <= everyone; set++) {
                    int most = best[(d + 1) * SETS + set];
                    for (int p = 0; p < town.persons; p++) {
                        most = Math.max(most, worthBy(d, p, set));
                    }
                    best[d * SETS + set] = most;
                }
            }
        }

        /** The most that can come of giving this duty to this person; NONE: it can't be given so. */
        private int worthBy(int duty, int person, int free) {
            if ((free >> person & 1) == 0 || (town.skills[person] >> duty & 1) == 0) {
                return NONE;
            }
            return town.worth[duty] + best[(duty + 1) * SETS + (free & ~(1 << person))];
        }

        private int firstGiver(int duty, int free) {
            for (int p = 0; p < town.persons; p++) {
                if (worthBy(duty, p, free) == best[duty * SETS + free]) {
                    return p;
                }
            }
            return NONE;
        }
    }

    /** Which of the next Mondays one person best buys off. */
    private static final class SkipSearch {
        static final int MAX_MONDAYS = 10;

        private final Town town;
        private final Law law;
        private int person = 0;
        private int mondays = 0;
        private int week = 0;
        private int skipped = 0;
        private int busy = 0;
        int bestCount = 0;
        int bestSet = 0;

        SkipSearch(Town town, Law law) {
            this.town = town;
            this.law = law;
        }

        void searchFor(Life life, int itsPerson, int n) {
            person = itsPerson;
            mondays = Math.min(n, MAX_MONDAYS);
            week = life.week;
            skipped = life.skipped[itsPerson];
            busy = life.busyBits(itsPerson, mondays);
            bestCount = 0;
            bestSet = 0;
            int others = bitsBelow(town.persons) & ~(1 << itsPerson);
            int[] seen = law.seen;
            seen[Law.SOLD] = 0;
            seen[Law.WAGE] = town.wage[itsPerson];
            seen[Law.NEEDED] = Integer.bitCount(town.skills[itsPerson] & ~town.skillsOf(others));
            seen[Law.TASKS] = 0;
            seen[Law.PERSON] = itsPerson;
            searchFrom(0, 0, life.coins[itsPerson]);
        }

        private void searchFrom(int index, int set, int coins) {
            if (index >= mondays) {
                noteSet(set);
                return;
            }
            searchFrom(index + 1, set, Math.min(MAX_COINS, coins + town.wage[person]));
            if ((busy >> index & 1) != 0) {
                return;
            }
            int[] seen = law.seen;
            seen[Law.WEEK] = week + index;
            seen[Law.SKIPPED] = skipped + Integer.bitCount(set);
            seen[Law.COINS] = coins;
            int itsPrice = law.priceOfSeen();
            if (itsPrice <= coins) {
                searchFrom(index + 1, set | 1 << index, coins - itsPrice);
            }
        }

        private void noteSet(int set) {
            int many = Integer.bitCount(set);
            if (many > bestCount || many == bestCount && set < bestSet) {
                bestCount = many;
                bestSet = set;
            }
        }
    }

    /** A year by a seed, lived by a life that nothing else keeps. */
    private static final class Year {
        private final Life life;
        private int seed = 0;
        int bought = 0;

        Year(Life life) {
            this.life = life;
        }

        void liveFrom(Life start, int itsSeed, int weeks, int q, int r) {
            life.copyFrom(start);
            seed = itsSeed;
            bought = 0;
            int persons = life.town.persons;
            for (int i = 0; i < weeks; i++) {
                if (persons > 0) {
                    tradeAmong(persons, q, r);
                }
                life.passWeek();
            }
        }

        private void tradeAmong(int persons, int q, int r) {
            int buyer = drawBelow(persons);
            if (drawBelow(16) < q && life.buyOff(buyer)) {
                bought++;
            }
            int seller = drawBelow(persons);
            if (drawBelow(16) < r) {
                life.sellBack(seller);
            }
        }

        private int drawBelow(int bound) {
            seed = seed * 1103515245 + 12345;
            int drawn = seed >>> 16 & 32767;
            return bound > 0 ? drawn % bound : 0;
        }
    }
}
