/** A town of writers who have others write for them; see README.md and the document it names. */
public final class BorrowedHands {
    public static final int NONE = -1;

    /* Refusals beside NONE; the document gives each number more than one sense, so the names are wide. */
    private static final int ABSENT = -2;
    private static final int UNFIT = -3;
    private static final int STRUCK = -4;

    private static final int MOST_WRITERS = 12;
    private static final int MOST_BOOKS = 4;
    private static final int MOST_PAGES = 8;
    private static final int MOST_SEEN = 16;
    private static final int MOST_BYTES = 400;
    private static final int MOST_ACTS = 10;
    private static final int MOST_SHELVES = 2;
    private static final int MOST_GIVEN = 9999;
    private static final int RICHEST = 99;
    private static final int SIGNS = 16;
    private static final int FULL_ROW = 65535;
    private static final int NOBODY = 1 << MOST_WRITERS;
    private static final int SIGNS_OF_ONES_OWN = 8;

    private final Town town = new Town();
    private final Town told = new Town();
    private final Tape tape = new Tape();
    private final Town[] earlier = new Town[MOST_ACTS];
    private final Town[] shelves = new Town[MOST_SHELVES];
    private final Hands hands = new Hands();
    private final Trail trail = new Trail();
    private final Slipping slipping = new Slipping();
    private final Stretches stretches = new Stretches();
    private final Apart apart = new Apart();
    private final Mistakes mistakes = new Mistakes();
    private final int[] flow = new int[MOST_WRITERS];
    private final long[] ways = new long[MOST_SEEN + 1];
    private int nextEarlier;
    private int undoable;
    private int kept;

    public BorrowedHands() {
        for (int i = 0; i < MOST_ACTS; i++) {
            earlier[i] = new Town();
        }
        for (int i = 0; i < MOST_SHELVES; i++) {
            shelves[i] = new Town();
        }
    }

    public int feed(int a, int b, int c, int d, int e) {
        if (!tape.hasRoom(20)) {
            return NONE;
        }
        tape.append(a);
        tape.append(b);
        tape.append(c);
        tape.append(d);
        tape.append(e);
        return tape.length;
    }

    public int end(int n) {
        if (n < 0 || n > tape.length) {
            return NONE;
        }
        tape.length = n;
        return n;
    }

    public int tell() {
        int fault = tape.readInto(told);
        tape.length = 0;
        if (fault != 0) {
            return -2 - fault;
        }
        town.copyFrom(told);
        undoable = 0;
        return town.writers;
    }

    public int hire(int writer, int under) {
        if (!town.isWriter(writer) || !town.isWriter(under)) {
            return NONE;
        }
        if (town.isDead(writer) || town.isDead(under)) {
            return STRUCK;
        }
        if (town.under[writer] == under) {
            return ABSENT;
        }
        if (town.purse[under] >= town.purse[writer]) {
            return UNFIT;
        }
        remember();
        town.under[writer] = under;
        return handsOf(writer);
    }

    public int sack(int writer) {
        if (!town.isWriter(writer)) {
            return NONE;
        }
        if (town.isDead(writer)) {
            return STRUCK;
        }
        int was = town.under[writer];
        if (was == NONE) {
            return ABSENT;
        }
        remember();
        town.under[writer] = NONE;
        return was;
    }

    public int teach(int writer, int kind, int a, int b) {
        if (!town.isWriter(writer) || !Habit.stands(kind, a, b)) {
            return NONE;
        }
        if (town.isDead(writer)) {
            return STRUCK;
        }
        int first = Habit.signsOf(kind) > 0 ? a : 0;
        int second = Habit.signsOf(kind) > 1 ? b : 0;
        if (town.hasHabit(writer, kind, first, second)) {
            return ABSENT;
        }
        remember();
        int was = town.kind[writer];
        town.setHabit(writer, kind, first, second);
        return was;
    }

    public int praise(int writer, int n) {
        if (!town.isWriter(writer) || !isGift(n)) {
            return NONE;
        }
        remember();
        hands.listFrom(town, writer);
        int coming = n;
        for (int i = 0; i < hands.many; i++) {
            int passed = i == hands.many - 1 ? 0 : coming / 10;
            town.fame[hands.who[i]] += coming - passed;
            coming = passed;
        }
        return hands.many == 1 ? n : n - n / 10;
    }

    public int blame(int writer, int n) {
        if (!town.isWriter(writer) || !isGift(n)) {
            return NONE;
        }
        remember();
        town.fame[writer] -= n;
        return town.fame[writer];
    }

    public int order(int writer, int n) {
        if (!town.isWriter(writer) || !isGift(n)) {
            return NONE;
        }
        remember();
        hands.listFrom(town, writer);
        int coming = n;
        int lowest = n;
        for (int i = 0; i < hands.many; i++) {
            int passed = i == hands.many - 1 ? 0 : coming / 2;
            town.coins[hands.who[i]] += coming - passed;
            lowest = coming;
            coming = passed;
        }
        return lowest;
    }

    public int day(int seed) {
        remember();
        int x = seed;
        int moods = 0;
        for (int w = 0; w < town.writers; w++) {
            int under = town.under[w];
            boolean mood;
            if (under == NONE) {
                x = 1103515245 * x + 12345;
                mood = (x >>> 16) % 3 == 0;
            } else {
                mood = town.inMood(under);
            }
            if (mood) {
                moods |= 1 << w;
            }
        }
        town.moods = moods;
        town.days++;
        return moods;
    }

    public int store(int writer, int book) {
        if (!town.isWriter(writer) || !town.isBook(book)) {
            return NONE;
        }
        if (town.isDead(writer)) {
            return STRUCK;
        }
        if (lineOf(writer, book, 0) == ABSENT) {
            return ABSENT;
        }
        remember();
        int pages = town.lengths[book];
        for (int p = 0; p < pages; p++) {
            town.putStock(writer, book, p, lineOf(writer, book, p));
        }
        return pages;
    }

    public int die(int writer) {
        if (!town.isWriter(writer)) {
            return NONE;
        }
        if (town.isDead(writer)) {
            return STRUCK;
        }
        remember();
        town.dead |= 1 << writer;
        int without = 0;
        for (int w = 0; w < town.writers; w++) {
            if (lacksLines(w)) {
                without++;
            }
        }
        return without;
    }

    public int see(int line) {
        if (!isRow(line)) {
            return NONE;
        }
        if (town.seenCount >= MOST_SEEN) {
            return UNFIT;
        }
        remember();
        town.seen[town.seenCount] = line;
        town.seenCount++;
        return town.seenCount;
    }

    public int forget() {
        int were = town.seenCount;
        if (were == 0) {
            return NONE;
        }
        remember();
        town.seenCount = 0;
        return were;
    }

    public int undo() {
        if (undoable == 0) {
            return NONE;
        }
        undoable--;
        nextEarlier = (nextEarlier + MOST_ACTS - 1) % MOST_ACTS;
        town.copyFrom(earlier[nextEarlier]);
        return undoable;
    }

    public int keep(int shelf) {
        if (!isShelf(shelf)) {
            return NONE;
        }
        shelves[shelf].copyFrom(town);
        kept |= 1 << shelf;
        return town.writers;
    }

    public int back(int shelf) {
        if (!isShelf(shelf)) {
            return NONE;
        }
        if ((kept >> shelf & 1) == 0) {
            return ABSENT;
        }
        town.copyFrom(shelves[shelf]);
        undoable = 0;
        return town.writers;
    }

    public int writer(int writer, int what) {
        if (!town.isWriter(writer)) {
            return Integer.MIN_VALUE;
        }
        switch (what) {
            case 0: return town.purse[writer];
            case 1: return town.kind[writer];
            case 2: return Habit.firstSign(town.kind[writer], town.first[writer]);
            case 3: return Habit.secondSign(town.kind[writer], town.second[writer]);
            case 4: return town.under[writer];
            case 5: return handsOf(writer);
            case 6: return lowestOf(writer);
            case 7: return town.fame[writer];
            case 8: return town.coins[writer];
            case 9: return town.inMood(writer) ? 1 : 0;
            case 10: return town.isDead(writer) ? 1 : 0;
            case 11: return town.stocked[writer];
            case 12: return town.havingUnder(writer);
            default: return Integer.MIN_VALUE;
        }
    }

    public int page(int book, int page) {
        return town.isPage(book, page) ? town.rowOf(book, page) : NONE;
    }

    public int line(int writer, int book, int page) {
        if (!town.isWriter(writer) || !town.isPage(book, page)) {
            return NONE;
        }
        return lineOf(writer, book, page);
    }

    public int trace(int writer, int book, int page, int sign, int what) {
        if (!town.isWriter(writer) || !town.isPage(book, page)) {
            return UNFIT;
        }
        if (!isSign(sign) || what < 0 || what > 1) {
            return UNFIT;
        }
        if (!followTrail(writer, book, page)) {
            return ABSENT;
        }
        return what == 0 ? trail.origin[sign] : trail.changer[sign];
    }

    public int own(int writer, int book, int page) {
        if (!town.isWriter(writer) || !town.isPage(book, page)) {
            return NONE;
        }
        if (!followTrail(writer, book, page)) {
            return ABSENT;
        }
        return trail.changedBy(writer);
    }

    public int pay(int writer, int book, int page) {
        if (!town.isWriter(writer) || !town.isPage(book, page)) {
            return NONE;
        }
        if (!followTrail(writer, book, page)) {
            return ABSENT;
        }
        int paid = 0;
        for (int i = 0; i < hands.many; i++) {
            paid += Integer.bitCount(trail.changedBy(hands.who[i]));
            if (paid >= SIGNS_OF_ONES_OWN) {
                return i;
            }
        }
        return ABSENT;
    }

    /* No habit mixes two signs, so rows of at most one sign tell all that hands do. */
    public int alike(int writer, int other) {
        if (!town.isWriter(writer) || !town.isWriter(other)) {
            return NONE;
        }
        if (passedUp(writer, 0) != passedUp(other, 0)) {
            return 0;
        }
        for (int k = 0; k < SIGNS; k++) {
            if (passedUp(writer, 1 << k) != passedUp(other, 1 << k)) {
                return 0;
            }
        }
        return 1;
    }

    public int fits(int line, int k) {
        if (!isRow(line) || k < NONE) {
            return NONE;
        }
        int found = 0;
        for (int place = 0; place < MOST_WRITERS * 32; place++) {
            if (lineAt(place) == line) {
                if (found == k) {
                    return place;
                }
                found++;
            }
        }
        return k == NONE ? found : ABSENT;
    }

    public int likeliest(int line, int what) {
        if (!isRow(line) || what < 0 || what > 1) {
            return NONE;
        }
        int best = ABSENT;
        int fewest = SIGNS + 1;
        for (int place = 0; place < MOST_WRITERS * 32; place++) {
            int row = lineAt(place);
            if (row >= 0 && Integer.bitCount(row ^ line) < fewest) {
                best = place;
                fewest = Integer.bitCount(row ^ line);
            }
        }
        return best == ABSENT || what == 0 ? best : fewest;
    }

    public long matches(int writer, int line) {
        if (!town.isWriter(writer) || !isRow(line)) {
            return NONE;
        }
        long found = 0L;
        for (int place = 0; place < 32; place++) {
            if (lineAt(32 * writer + place) == line) {
                found |= 1L << place;
            }
        }
        return found;
    }

    public long trees(int book, int page) {
        if (!town.isPage(book, page) || !seenFitsWriters()) {
            return NONE;
        }
        long all = 1L;
        for (int w = 0; w < town.seenCount; w++) {
            all *= Integer.bitCount(choicesBySeen(w, town.rowOf(book, page)));
        }
        return all;
    }

    public int under(int book, int page, int writer) {
        if (!town.isPage(book, page) || !seenFitsWriters()) {
            return NONE;
        }
        if (writer < 0 || writer >= town.seenCount) {
            return NONE;
        }
        return choicesBySeen(writer, town.rowOf(book, page));
    }

    public int breaks(int writer, int book, int what) {
        if (!town.isWriter(writer) || !town.isBook(book)) {
            return UNFIT;
        }
        if (what < 0 || what > 1 || town.seenCount == 0) {
            return UNFIT;
        }
        stretches.cut(town, hands, writer, book);
        if (stretches.many == 0) {
            return ABSENT;
        }
        if (what == 0) {
            return stretches.many - 1;
        }
        return stretches.many > 1 ? stretches.start[1] : NONE;
    }

    public long untangle(int one, int other, int book, int n) {
        if (!town.isWriter(one) || !town.isWriter(other) || one == other) {
            return NONE;
        }
        if (!town.isBook(book)) {
            return NONE;
        }
        if (n < 0 || n > town.seenCount) {
            return 0L;
        }
        countWays(one, other, book);
        return ways[n];
    }

    public int tells(int book, int set, int what) {
        if (!town.isBook(book) || !isSetOfWriters(set)) {
            return NONE;
        }
        if (what < 0 || what > 1 || Integer.bitCount(set) < 2) {
            return NONE;
        }
        int pages = apart.fewestPages(town, hands, book, set);
        if (pages == 0) {
            return ABSENT;
        }
        return what == 0 ? Integer.bitCount(pages) : pages;
    }

    public int slips(int writer, int book, int page, int line, int what) {
        if (!town.isWriter(writer) || !town.isPage(book, page)) {
            return UNFIT;
        }
        if (!isRow(line) || what < 0 || what > 4) {
            return UNFIT;
        }
        hands.listFrom(town, writer);
        if (hands.anyDead(town)) {
            return ABSENT;
        }
        slipping.search(town, hands, town.rowOf(book, page), line);
        if (what == 0) {
            return slipping.many;
        }
        return slipping.many == 0 ? ABSENT : slipping.ofFirst(what);
    }

    public int errors(int book, int page, int sign) {
        if (!town.isPage(book, page) || !isSign(sign)) {
            return NONE;
        }
        mistakes.gather(town, hands, book, page);
        return mistakes.sets[sign];
    }

    public int nested(int book, int page, int what) {
        if (!town.isPage(book, page) || what < 0 || what > 3) {
            return NONE;
        }
        mistakes.gather(town, hands, book, page);
        switch (what) {
            case 0: return mistakes.clashes() == 0 ? 1 : 0;
            case 1: return mistakes.clashes();
            case 2: return mistakes.unlikeSets();
            default: return mistakes.longestRow();
        }
    }

    public int shared(int one, int other) {
        if (!town.isWriter(one) || !town.isWriter(other)) {
            return NONE;
        }
        hands.listFrom(town, other);
        int others = hands.asBits();
        hands.listFrom(town, one);
        for (int i = 0; i < hands.many; i++) {
            if ((others >> hands.who[i] & 1) == 1) {
                return hands.who[i];
            }
        }
        return ABSENT;
    }

    public int quarrel(int one, int other, int book, int page) {
        if (!town.isWriter(one) || !town.isWriter(other) || !town.isPage(book, page)) {
            return NONE;
        }
        int row = lineOf(one, book, page);
        int otherRow = lineOf(other, book, page);
        return row == ABSENT || otherRow == ABSENT ? ABSENT : row ^ otherRow;
    }

    /* From the richest down: all who stand over a hand have sent him their wants before he is looked at. */
    public int served(int set, int n) {
        if (!isSetOfWriters(set) || n < 0 || n > RICHEST) {
            return NONE;
        }
        for (int w = 0; w < MOST_WRITERS; w++) {
            flow[w] = (set >> w & 1) * n;
        }
        int all = 0;
        for (int purse = RICHEST; purse >= 0; purse--) {
            for (int w = 0; w < town.writers; w++) {
                if (town.purse[w] == purse) {
                    all += sendDown(w);
                }
            }
        }
        return all;
    }

    public int between(int writer, int book, int k) {
        if (!town.isWriter(writer) || !town.isBook(book)) {
            return NONE;
        }
        if (k < 0 || town.seenCount == 0) {
            return NONE;
        }
        stretches.cut(town, hands, writer, book);
        return k < stretches.many ? stretches.choices[k] : ABSENT;
    }

    public int count(int what) {
        switch (what) {
            case 0: return town.writers;
            case 1: return town.books;
            case 2: return town.allPages();
            case 3: return town.havingUnder(NONE);
            case 4: return mostHands();
            case 5: return town.sumOf(town.fame);
            case 6: return town.sumOf(town.coins);
            case 7: return town.moods;
            case 8: return town.dead;
            case 9: return town.seenCount;
            case 10: return undoable;
            case 11: return tape.length;
            case 12: return kept;
            case 13: return town.days;
            default: return NONE;
        }
    }

    private static boolean isSign(int number) {
        return number >= 0 && number < SIGNS;
    }

    private static boolean isRow(int number) {
        return number >= 0 && number <= FULL_ROW;
    }

    private static boolean isGift(int number) {
        return number >= 1 && number <= MOST_GIVEN;
    }

    private static boolean isShelf(int number) {
        return number >= 0 && number < MOST_SHELVES;
    }

    private boolean isSetOfWriters(int set) {
        return set >= 0 && set >> town.writers == 0;
    }

    /* Called by each act once nothing can refuse it any more. */
    private void remember() {
        earlier[nextEarlier].copyFrom(town);
        nextEarlier = (nextEarlier + 1) % MOST_ACTS;
        undoable = Math.min(undoable + 1, MOST_ACTS);
    }

    private int handsOf(int writer) {
        hands.listFrom(town, writer);
        return hands.many;
    }

    private int lowestOf(int writer) {
        hands.listFrom(town, writer);
        return hands.lowest();
    }

    private int mostHands() {
        int most = 0;
        for (int w = 0; w < town.writers; w++) {
            most = Math.max(most, handsOf(w));
        }
        return most;
    }

    private int lineOf(int writer, int book, int page) {
        return hands.lineOf(town, writer, book, page);
    }

    /* Places are counted as fits() tells them; those that do not stand have no line. */
    private int lineAt(int place) {
        int writer = place / 32;
        int book = place / MOST_PAGES % MOST_BOOKS;
        int page = place % MOST_PAGES;
        if (!town.isWriter(writer) || !town.isPage(book, page)) {
            return ABSENT;
        }
        return lineOf(writer, book, page);
    }

    /* Death and stock take whole books, so the first page speaks for all. */
    private boolean lacksLines(int writer) {
        for (int b = 0; b < town.books; b++) {
            if (lineOf(writer, b, 0) == ABSENT) {
                return true;
            }
        }
        return false;
    }

    private boolean followTrail(int writer, int book, int page) {
        hands.listFrom(town, writer);
        if (hands.anyDead(town)) {
            return false;
        }
        trail.follow(town, hands, town.rowOf(book, page));
        return true;
    }

    private int passedUp(int writer, int row) {
        hands.listFrom(town, writer);
        return hands.passUp(town, 0, hands.many, row);
    }

    private boolean seenFitsWriters() {
        return town.seenCount > 0 && town.seenCount <= town.writers;
    }

    private int choicesBySeen(int writer, int pageRow) {
        int wanted = town.seen[writer];
        int choices = town.habitOn(writer, pageRow) == wanted ? NOBODY : 0;
        for (int w = 0; w < town.seenCount; w++) {
            boolean poorer = town.purse[w] < town.purse[writer];
            if (poorer && town.habitOn(writer, town.seen[w]) == wanted) {
                choices |= 1 << w;
            }
        }
        return choices;
    }

    private void countWays(int one, int other, int book) {
        for (int k = 0; k <= MOST_SEEN; k++) {
            ways[k] = 0L;
        }
        ways[0] = 1L;
        for (int i = 0; i < town.seenCount; i++) {
            int page = town.pageOfSeen(book, i);
            boolean byOne = lineOf(one, book, page) == town.seen[i];
            boolean byOther = lineOf(other, book, page) == town.seen[i];
            for (int k = i + 1; k >= 0; k--) {
                long ofOther = byOther ? ways[k] : 0L;
                long ofOne = byOne && k > 0 ? ways[k - 1] : 0L;
                ways[k] = ofOne + ofOther;
            }
        }
    }

    /* Answers what has come to the end of its way: the lines of a lowest hand. */
    private int sendDown(int writer) {
        int able = town.isDead(writer) ? 0 : town.purse[writer];
        int made = Math.min(able, flow[writer]);
        int under = town.under[writer];
        if (under == NONE) {
            return made;
        }
        flow[under] += made;
        return 0;
    }

    /** What the seven kinds of habit do to a row; a number that a kind does not need is held as 0. */
    private static final class Habit {
        static final int PLAIN = 0;
        static final int FLIP = 1;
        static final int SET = 2;
        static final int CLEAR = 3;
        static final int TURN = 4;
        static final int SWAP = 5;
        static final int COPY = 6;

        private Habit() {
        }

        static int signsOf(int kind) {
            if (kind == PLAIN) {
                return 0;
            }
            return kind == SWAP || kind == COPY ? 2 : 1;
        }

        static int firstSign(int kind, int first) {
            return signsOf(kind) > 0 ? first : NONE;
        }

        static int secondSign(int kind, int second) {
            return signsOf(kind) > 1 ? second : NONE;
        }

        static boolean stands(int kind, int a, int b) {
            if (kind < PLAIN || kind > COPY) {
                return false;
            }
            if (kind == PLAIN) {
                return true;
            }
            if (!isSign(a) || kind == TURN && a == 0) {
                return false;
            }
            return signsOf(kind) == 1 || isSign(b) && b != a;
        }

        static int changeRow(int kind, int a, int b, int row) {
            switch (kind) {
                case FLIP: return row ^ (1 << a);
                case SET: return row | (1 << a);
                case CLEAR: return row & ~(1 << a);
                case TURN: return ((row << a) | (row >>> (SIGNS - a))) & FULL_ROW;
                case SWAP: return ((row >> a ^ row >> b) & 1) == 0 ? row : row ^ ((1 << a) | (1 << b));
                case COPY: return (row & ~(1 << b)) | ((row >> a & 1) << b);
                default: return row;
            }
        }

        static int signAt(int row, int sign) {
            return row >> sign & 1;
        }
    }

    /** All that is kept on a shelf and brought back by undo(). */
    private static final class Town {
        int writers;
        int books;
        int seenCount;
        int days;
        int moods;
        int dead;
        final int[] purse = new int[MOST_WRITERS];
        final int[] kind = new int[MOST_WRITERS];
        final int[] first = new int[MOST_WRITERS];
        final int[] second = new int[MOST_WRITERS];
        final int[] under = new int[MOST_WRITERS];
        final int[] fame = new int[MOST_WRITERS];
        final int[] coins = new int[MOST_WRITERS];
        final int[] stocked = new int[MOST_WRITERS];
        final int[] lengths = new int[MOST_BOOKS];
        final int[] pages = new int[MOST_BOOKS * MOST_PAGES];
        final int[] stock = new int[MOST_WRITERS * MOST_BOOKS * MOST_PAGES];
        final int[] seen = new int[MOST_SEEN];

        /* Rows beyond the counts may hold old numbers: they are written anew before they count. */
        void empty() {
            writers = 0;
            books = 0;
            seenCount = 0;
            days = 0;
            moods = 0;
            dead = 0;
        }

        void copyFrom(Town other) {
            writers = other.writers;
            books = other.books;
            seenCount = other.seenCount;
            days = other.days;
            moods = other.moods;
            dead = other.dead;
            copyRow(other.purse, purse);
            copyRow(other.kind, kind);
            copyRow(other.first, first);
            copyRow(other.second, second);
            copyRow(other.under, under);
            copyRow(other.fame, fame);
            copyRow(other.coins, coins);
            copyRow(other.stocked, stocked);
            copyRow(other.lengths, lengths);
            copyRow(other.pages, pages);
            copyRow(other.stock, stock);
            copyRow(other.seen, seen);
        }

        private static void copyRow(int[] from, int[] to) {
            System.arraycopy(from, 0, to, 0, Math.min(from.length, to.length));
        }

        void addWriter(int itsPurse) {
            purse[writers] = itsPurse;
            setHabit(writers, Habit.PLAIN, 0, 0);
            under[writers] = NONE;
            fame[writers] = 0;
            coins[writers] = 0;
            stocked[writers] = 0;
            writers++;
        }

        void addBook() {
            lengths[books] = 0;
            books++;
        }

        void addPage(int row) {
            int book = books - 1;
            pages[book * MOST_PAGES + lengths[book]] = row;
            lengths[book]++;
        }

        boolean isWriter(int w) {
            return w >= 0 && w < writers;
        }

        boolean isBook(int b) {
            return b >= 0 && b < books;
        }

        boolean isPage(int b, int p) {
            return isBook(b) && p >= 0 && p < lengths[b];
        }

        boolean isDead(int w) {
            return (dead >> w & 1) == 1;
        }

        boolean inMood(int w) {
            return (moods >> w & 1) == 1;
        }

        boolean hasStock(int w, int b) {
            return (stocked[w] >> b & 1) == 1;
        }

        int stockOf(int w, int b, int p) {
            return stock[(w * MOST_BOOKS + b) * MOST_PAGES + p];
        }

        void putStock(int w, int b, int p, int row) {
            stock[(w * MOST_BOOKS + b) * MOST_PAGES + p] = row;
            stocked[w] |= 1 << b;
        }

        boolean hasHabit(int w, int itsKind, int a, int b) {
            return kind[w] == itsKind && first[w] == a && second[w] == b;
        }

        void setHabit(int w, int itsKind, int a, int b) {
            kind[w] = itsKind;
            first[w] = a;
            second[w] = b;
        }

        int habitOn(int w, int row) {
            return Habit.changeRow(kind[w], first[w], second[w], row);
        }

        int rowOf(int b, int p) {
            return pages[b * MOST_PAGES + p];
        }

        int pageOfSeen(int b, int i) {
            return lengths[b] > 0 ? i % lengths[b] : 0;
        }

        int havingUnder(int whom) {
            int bits = 0;
            for (int w = 0; w < writers; w++) {
                if (under[w] == whom) {
                    bits |= 1 << w;
                }
            }
            return bits;
        }

        int allPages() {
            int all = 0;
            for (int b = 0; b < books; b++) {
                all += lengths[b];
            }
            return all;
        }

        int sumOf(int[] ofWriters) {
            int all = 0;
            for (int w = 0; w < writers; w++) {
                all += ofWriters[w];
            }
            return all;
        }
    }

    /** The hands of a writer, he the first; filled anew by each question, so that none makes a row. */
    private static final class Hands {
        final int[] who = new int[MOST_WRITERS];
        int many;

        void listFrom(Town town, int writer) {
            listUntilDead(town, writer, 0);
        }

        /* Answers the first of the dead that is met, who is not listed; NONE if the list is whole. */
        private int listUntilDead(Town town, int writer, int dead) {
            many = 0;
            int at = writer;
            while (at != NONE && many < MOST_WRITERS && (dead >> at & 1) == 0) {
                who[many] = at;
                many++;
                at = town.under[at];
            }
            return at;
        }

        int lowest() {
            return many > 0 ? who[many - 1] : NONE;
        }

        int asBits() {
            int bits = 0;
            for (int i = 0; i < many; i++) {
                bits |= 1 << who[i];
            }
            return bits;
        }

        boolean anyDead(Town town) {
            return (asBits() & town.dead) != 0;
        }

        /* What the hands from one place to the one ahead of another make of a row from below them. */
        int passUp(Town town, int from, int to, int row) {
            int passed = row;
            for (int i = to - 1; i >= from; i--) {
                int w = who[i];
                if (!town.inMood(w)) {
                    passed = Habit.changeRow(town.kind[w], town.first[w], town.second[w], passed);
                }
            }
            return passed;
        }

        int lineOf(Town town, int writer, int book, int page) {
            int dead = listUntilDead(town, writer, town.dead);
            if (dead == NONE) {
                return passUp(town, 0, many, town.rowOf(book, page));
            }
            if (!town.hasStock(dead, book)) {
                return ABSENT;
            }
            return passUp(town, 0, many, town.stockOf(dead, book, page));
        }
    }

    /** The tape, and the reading of the town that it tells. */
    private static final class Tape {
        private static final int MISPLACED = 1;
        private static final int WRONG_NUMBER = 2;
        private static final int TOO_MANY = 3;
        private static final int NOT_POORER = 4;
        private static final int LARGE = 1000000;

        private final int[] bytes = new int[MOST_BYTES];
        int length;
        private int at;
        private int began;
        private int fault;

        boolean hasRoom(int more) {
            return length + more <= MOST_BYTES;
        }

        void append(int number) {
            for (int shift = 24; shift >= 0; shift -= 8) {
                bytes[length] = number >>> shift & 255;
                length++;
            }
        }

        /* Answers the fault; 0 is none, for even the least fault is 1. */
        int readInto(Town town) {
            town.empty();
            at = 0;
            fault = 0;
            skipBlanks();
            boolean more = at < length;
            for (int part = 0; more && part <= MOST_BYTES; part++) {
                more = readPart(town) && readSemicolon();
            }
            return fault;
        }

        private boolean readPart(Town town) {
            readWord();
            if (wordIs("writer")) {
                return town.writers < MOST_WRITERS ? readWriter(town) : refuse(began, TOO_MANY);
            }
            if (wordIs("book")) {
                return town.books < MOST_BOOKS ? readBook(town) : refuse(began, TOO_MANY);
            }
            return refuse(began, MISPLACED);
        }

        /* False where the text ends as well as where it is wrong: no part comes then. */
        private boolean readSemicolon() {
            skipBlanks();
            if (at >= length) {
                return false;
            }
            if (bytes[at] != ';') {
                return refuse(at, MISPLACED);
            }
            at++;
            return true;
        }

        /* Only those ahead of him are told, so he can't be under himself: his number is the bound. */
        private boolean readWriter(Town town) {
            int writer = town.writers;
            int purse = readNumber(0, RICHEST);
            if (fault != 0) {
                return false;
            }
            town.addWriter(purse);
            if (!readHabit(town, writer)) {
                return false;
            }
            skipBlanks();
            return at >= length || !isLetter(bytes[at]) || readUnder(town, writer);
        }

        private boolean readHabit(Town town, int writer) {
            readWord();
            int kind = kindOfWord();
            if (kind == NONE) {
                return refuse(began, MISPLACED);
            }
            int first = 0;
            int second = 0;
            if (Habit.signsOf(kind) > 0) {
                first = readNumber(kind == Habit.TURN ? 1 : 0, SIGNS - 1);
            }
            if (fault == 0 && Habit.signsOf(kind) > 1) {
                second = readNumber(0, SIGNS - 1);
                if (fault == 0 && second == first) {
                    refuse(began, WRONG_NUMBER);
                }
            }
            town.setHabit(writer, kind, first, second);
            return fault == 0;
        }

        private boolean readUnder(Town town, int writer) {
            readWord();
            if (!wordIs("under")) {
                return refuse(began, MISPLACED);
            }
            int under = readNumber(0, writer - 1);
            if (fault != 0) {
                return false;
            }
            if (town.purse[under] >= town.purse[writer]) {
                return refuse(began, NOT_POORER);
            }
            town.under[writer] = under;
            return true;
        }

        private boolean readBook(Town town) {
            town.addBook();
            for (int page = 0; page <= MOST_PAGES; page++) {
                int row = readNumber(0, FULL_ROW);
                if (fault != 0) {
                    return false;
                }
                if (page == MOST_PAGES) {
                    return refuse(began, TOO_MANY);
                }
                town.addPage(row);
                skipBlanks();
                if (at >= length || !isDigit(bytes[at])) {
                    return true;
                }
            }
            return true;
        }

        private int readNumber(int least, int most) {
            skipBlanks();
            began = at;
            int number = 0;
            while (at < length && isDigit(bytes[at])) {
                number = Math.min(number * 10 + bytes[at] - '0', LARGE);
                at++;
            }
            if (at == began) {
                refuse(began, MISPLACED);
            } else if (number < least || number > most) {
                refuse(began, WRONG_NUMBER);
            }
            return number;
        }

        private void readWord() {
            skipBlanks();
            began = at;
            while (at < length && isLetter(bytes[at])) {
                at++;
            }
        }

        private boolean wordIs(String word) {
            if (word.length() != at - began) {
                return false;
            }
            for (int i = 0; i < word.length(); i++) {
                if (bytes[began + i] != word.charAt(i)) {
                    return false;
                }
            }
            return true;
        }

        private int kindOfWord() {
            for (int kind = Habit.PLAIN; kind <= Habit.COPY; kind++) {
                if (wordIs(wordOfKind(kind))) {
                    return kind;
                }
            }
            return NONE;
        }

        private static String wordOfKind(int kind) {
            switch (kind) {
                case Habit.FLIP: return "flip";
                case Habit.SET: return "set";
                case Habit.CLEAR: return "clear";
                case Habit.TURN: return "turn";
                case Habit.SWAP: return "swap";
                case Habit.COPY: return "copy";
                default: return "plain";
            }
        }

        private void skipBlanks() {
            while (at < length && bytes[at] == ' ') {
                at++;
            }
        }

        private static boolean isLetter(int sign) {
            return sign >= 'a' && sign <= 'z';
        }

        private static boolean isDigit(int sign) {
            return sign >= '0' && sign <= '9';
        }

        private boolean refuse(int place, int why) {
            fault = 8 * place + why;
            return false;
        }
    }

    /** Of each sign of a line: which sign of the page it comes from, and who changed it last. */
    private static final class Trail {
        final int[] origin = new int[SIGNS];
        final int[] changer = new int[SIGNS];
        private final int[] spare = new int[SIGNS];

        void follow(Town town, Hands hands, int pageRow) {
            for (int k = 0; k < SIGNS; k++) {
                origin[k] = k;
                changer[k] = NONE;
            }
            int row = pageRow;
            for (int i = hands.many - 1; i >= 0; i--) {
                int writer = hands.who[i];
                if (!town.inMood(writer)) {
                    step(town, writer, row);
                    row = town.habitOn(writer, row);
                }
            }
        }

        int changedBy(int writer) {
            int bits = 0;
            for (int k = 0; k < SIGNS; k++) {
                if (changer[k] == writer) {
                    bits |= 1 << k;
                }
            }
            return bits;
        }

        private void step(Town town, int writer, int row) {
            int a = town.first[writer];
            int b = town.second[writer];
            switch (town.kind[writer]) {
                case Habit.FLIP:
                    changer[a] = writer;
                    break;
                case Habit.SET:
                    put(a, NONE, writer, Habit.signAt(row, a) != 1);
                    break;
                case Habit.CLEAR:
                    put(a, NONE, writer, Habit.signAt(row, a) != 0);
                    break;
                case Habit.TURN:
                    turn(origin, a);
                    turn(changer, a);
                    break;
                case Habit.SWAP:
                    swap(origin, a, b);
                    swap(changer, a, b);
                    break;
                case Habit.COPY:
                    put(b, origin[a], writer, Habit.signAt(row, a) != Habit.signAt(row, b));
                    break;
                default:
                    break;
            }
        }

        private void put(int sign, int from, int writer, boolean changed) {
            origin[sign] = from;
            if (changed) {
                changer[sign] = writer;
            }
        }

        private void turn(int[] signs, int up) {
            for (int k = 0; k < SIGNS; k++) {
                spare[(k + up) % SIGNS] = signs[k];
            }
            System.arraycopy(spare, 0, signs, 0, SIGNS);
        }

        private static void swap(int[] signs, int a, int b) {
            int held = signs[a];
            signs[a] = signs[b];
            signs[b] = held;
        }
    }

    /** The other habits by which one of the hands would make a told line; none of the hands is dead. */
    private static final class Slipping {
        int many;
        private int firstWriter;
        private int firstKind;
        private int firstA;
        private int firstB;
        private int needed;
        private int wanted;

        void search(Town town, Hands hands, int pageRow, int line) {
            many = 0;
            for (int w = 0; w < town.writers; w++) {
                for (int i = 0; i < hands.many; i++) {
                    boolean able = hands.who[i] == w && !town.inMood(w);
                    if (able && findDemand(town, hands, i, line)) {
                        tryHabits(town, w, hands.passUp(town, i + 1, hands.many, pageRow));
                    }
                }
            }
        }

        int ofFirst(int what) {
            switch (what) {
                case 1: return firstWriter;
                case 2: return firstKind;
                case 3: return Habit.firstSign(firstKind, firstA);
                default: return Habit.secondSign(firstKind, firstB);
            }
        }

        /*
         * Which signs must leave this hand and how, so that those over him make the line of them:
         * each sign of the line hangs on one sign at most, so each can be looked at alone, and the
         * 544 habits need not be carried up through all hands. False: no row would do.
         */
        private boolean findDemand(Town town, Hands hands, int place, int line) {
            int base = hands.passUp(town, 0, place, 0);
            int gap = line ^ base;
            int reached = 0;
            needed = 0;
            wanted = 0;
            for (int k = 0; k < SIGNS; k++) {
                int moved = hands.passUp(town, 0, place, 1 << k) ^ base;
                reached |= moved;
                if (moved != 0) {
                    needed |= 1 << k;
                }
                if (moved != 0 && (gap & moved) == moved) {
                    wanted |= 1 << k;
                } else if ((gap & moved) != 0) {
                    return false;
                }
            }
            return (gap & ~reached) == 0;
        }

        private void tryHabits(Town town, int writer, int row) {
            for (int kind = Habit.PLAIN; kind <= Habit.COPY; kind++) {
                int mostA = Habit.signsOf(kind) > 0 ? SIGNS : 1;
                int mostB = Habit.signsOf(kind) > 1 ? SIGNS : 1;
                for (int a = 0; a < mostA; a++) {
                    for (int b = 0; b < mostB; b++) {
                        boolean other = !town.hasHabit(writer, kind, a, b);
                        if (other && Habit.stands(kind, a, b)) {
                            tryOne(writer, kind, a, b, row);
                        }
                    }
                }
            }
        }

        private void tryOne(int writer, int kind, int a, int b, int row) {
            if ((Habit.changeRow(kind, a, b, row) & needed) != wanted) {
                return;
            }
            if (many == 0) {
                firstWriter = writer;
                firstKind = kind;
                firstA = a;
                firstB = b;
            }
            many++;
        }
    }

    /** The stretches between breaks of a writer, each as long as can be: so they are the fewest. */
    private static final class Stretches {
        final int[] start = new int[MOST_SEEN];
        final int[] choices = new int[MOST_SEEN];
        int many;

        /* None at all (many 0) if something seen can't be by anybody. */
        void cut(Town town, Hands hands, int writer, int book) {
            many = 0;
            for (int i = 0; i < town.seenCount; i++) {
                int able = whoMade(town, hands, writer, book, i);
                if (able == 0) {
                    many = 0;
                    return;
                }
                if (many > 0 && (choices[many - 1] & able) != 0) {
                    choices[many - 1] &= able;
                } else {
                    start[many] = i;
                    choices[many] = able;
                    many++;
                }
            }
        }

        private static int whoMade(Town town, Hands hands, int writer, int book, int i) {
            int page = town.pageOfSeen(book, i);
            int wanted = town.seen[i];
            int able = town.habitOn(writer, town.rowOf(book, page)) == wanted ? NOBODY : 0;
            for (int w = 0; w < town.writers; w++) {
                if (town.purse[w] < town.purse[writer]) {
                    int row = hands.lineOf(town, w, book, page);
                    if (row != ABSENT && town.habitOn(writer, row) == wanted) {
                        able |= 1 << w;
                    }
                }
            }
            return able;
        }
    }

    /** The fewest pages of a book on which each two of a set of writers have unlike lines. */
    private static final class Apart {
        private final int[] rows = new int[MOST_WRITERS * MOST_PAGES];
        private final int[] twos = new int[MOST_WRITERS * MOST_WRITERS];
        private int many;

        /* As bits; 0 if no pages will do. Rising, so that of like counts the least number stays. */
        int fewestPages(Town town, Hands hands, int book, int set) {
            int length = town.lengths[book];
            fillRows(town, hands, book, set);
            listTwos(town.writers, length, set);
            int best = 0;
            for (int pages = 1; pages < 1 << length; pages++) {
                boolean fewer = best == 0 || Integer.bitCount(pages) < Integer.bitCount(best);
                if (fewer && allApart(pages)) {
                    best = pages;
                }
            }
            return best;
        }

        private void fillRows(Town town, Hands hands, int book, int set) {
            for (int w = 0; w < town.writers; w++) {
                if ((set >> w & 1) == 1) {
                    for (int p = 0; p < town.lengths[book]; p++) {
                        rows[w * MOST_PAGES + p] = hands.lineOf(town, w, book, p);
                    }
                }
            }
        }

        private void listTwos(int writers, int length, int set) {
            many = 0;
            for (int one = 0; one < writers; one++) {
                for (int other = one + 1; other < writers; other++) {
                    if ((set >> one & set >> other & 1) == 1) {
                        twos[many] = differingPages(one, other, length);
                        many++;
                    }
                }
            }
        }

        private int differingPages(int one, int other, int length) {
            int pages = 0;
            for (int p = 0; p < length; p++) {
                if (rows[one * MOST_PAGES + p] != rows[other * MOST_PAGES + p]) {
                    pages |= 1 << p;
                }
            }
            return pages;
        }

        private boolean allApart(int pages) {
            for (int i = 0; i < many; i++) {
                if ((twos[i] & pages) == 0) {
                    return false;
                }
            }
            return true;
        }
    }

    /** Of each sign of a page: the writers, as bits, in whose lines it is another one. */
    private static final class Mistakes {
        final int[] sets = new int[SIGNS];
        private final int[] rows = new int[SIGNS];

        void gather(Town town, Hands hands, int book, int page) {
            for (int k = 0; k < SIGNS; k++) {
                sets[k] = 0;
            }
            for (int w = 0; w < town.writers; w++) {
                int row = hands.lineOf(town, w, book, page);
                int wrong = row == ABSENT ? 0 : row ^ town.rowOf(book, page);
                for (int k = 0; k < SIGNS; k++) {
                    sets[k] |= (wrong >> k & 1) << w;
                }
            }
        }

        int clashes() {
            int all = 0;
            for (int k = 0; k < SIGNS; k++) {
                for (int l = k + 1; l < SIGNS; l++) {
                    if (clash(sets[k], sets[l])) {
                        all++;
                    }
                }
            }
            return all;
        }

        private static boolean clash(int one, int other) {
            int both = one & other;
            return both != 0 && both != one && both != other;
        }

        int unlikeSets() {
            int all = 0;
            for (int k = 0; k < SIGNS; k++) {
                if (sets[k] != 0 && isFirstOfItsLike(k)) {
                    all++;
                }
            }
            return all;
        }

        private boolean isFirstOfItsLike(int sign) {
            for (int k = 0; k < sign; k++) {
                if (sets[k] == sets[sign]) {
                    return false;
                }
            }
            return true;
        }

        /* By size, the smallest first, so that the rows of all sets within a set are known ahead. */
        int longestRow() {
            int longest = 0;
            for (int size = 1; size <= MOST_WRITERS; size++) {
                for (int k = 0; k < SIGNS; k++) {
                    if (Integer.bitCount(sets[k]) == size) {
                        rows[k] = 1 + longestWithin(k);
                        longest = Math.max(longest, rows[k]);
                    }
                }
            }
            return longest;
        }

        private int longestWithin(int sign) {
            int longest = 0;
            for (int k = 0; k < SIGNS; k++) {
                boolean within = sets[k] != 0 && sets[k] != sets[sign];
                if (within && (sets[k] & ~sets[sign]) == 0) {
                    longest = Math.max(longest, rows[k]);
                }
            }
            return longest;
        }
    }
}
