/** The edges of promises 19 to 28: questions about one writer, about pages and lines. */
public final class QuestionEdgesTest {
    private static final int NONE = Edge.NONE;
    private static final int MIN = Edge.MIN;
    private static final int MAX = Edge.MAX;
    private static final Edge.Story FULL = Towns.of(Towns.FULL);
    /* 12 one over the other; the lowest eight each set a sign, the upper four add nothing. */
    private static final String LOW_EIGHT = chain(8, "set ") + ";book 0";
    /* 0 is dead without stock, 1 over him; 2 is dead with stock of book 0 alone, 3 over him. */
    private static final Edge.Story DEAD = x -> {
        Due.tell(x, "writer 1 flip 0;writer 2 plain under 0;writer 1 flip 1;writer 2 flip 15 under 2;book 8 9;book 7");
        x.store(2, 0);
        x.die(0);
        x.die(2);
    };

    private QuestionEdgesTest() {
    }

    public static void main(String[] args) {
        Edge.runAll(QuestionEdgesTest.class, 19, 28);
    }

    private static String chain(int changing, String habit) {
        StringBuilder text = new StringBuilder("writer 0 " + habit + "0");
        for (int w = 1; w < 12; w++) {
            text.append(";writer ").append(w).append(w < changing ? " " + habit + w : " plain").append(" under ").append(w - 1);
        }
        return text.toString();
    }

    /* Twelve writers, the last of numbers; an object with all in it; one with nothing. */
    private static void writersAndPages(Asking asking, long due) {
        Edge.refusedEach("writer", Towns.ALL, Edge.outside(0, 4), n -> x -> asking.on(x, n, 0, 0), due);
        Edge.refusedEach("book", Towns.ALL, Edge.outside(0, 1), n -> x -> asking.on(x, 0, n, 0), due);
        Edge.refusedEach("page", Towns.ALL, Edge.outside(0, 2), n -> x -> asking.on(x, 0, 0, n), due);
        Edge.refusedEach("page of book 1", Towns.ALL, Edge.outside(0, 0), n -> x -> asking.on(x, 0, 1, n), due);
        Edge.refusedEach("all", Towns.ALL, Edge.outside(0, 4), n -> x -> asking.on(x, n, n, n), due);
        Edge.refusedEach("writer of 12", FULL, Edge.outside(0, 11), n -> x -> asking.on(x, n, 0, 0), due);
        Edge.refusedEach("book of 4", FULL, Edge.outside(0, 3), n -> x -> asking.on(x, 0, n, 0), due);
        Edge.refusedEach("page of 8", FULL, Edge.outside(0, 7), n -> x -> asking.on(x, 0, 0, n), due);
        Edge.refused("page of a dead one", DEAD, x -> asking.on(x, 0, 0, 2), due);
        Edge.refused("book of a dead one", DEAD, x -> asking.on(x, 2, 2, 0), due);
        Edge.refused("no books", Towns.of(Towns.TWELVE), x -> asking.on(x, 0, 0, 0), due);
        Edge.refused("no writers", Towns.of("book 1"), x -> asking.on(x, 0, 0, 0), due);
        Edge.refused("no town", Towns.NOTHING, x -> asking.on(x, 0, 0, 0), due);
    }

    private static void twoWriters(AskingTwo asking, long due) {
        Edge.refusedEach("one", Towns.ALL, Edge.outside(0, 4), n -> x -> asking.on(x, n, 0), due);
        Edge.refusedEach("other", Towns.ALL, Edge.outside(0, 4), n -> x -> asking.on(x, 0, n), due);
        Edge.refusedEach("both", Towns.ALL, Edge.outside(0, 4), n -> x -> asking.on(x, n, n), due);
        Edge.refusedEach("one of 12", FULL, Edge.outside(0, 11), n -> x -> asking.on(x, n, 0), due);
        Edge.refusedEach("other of 12", FULL, Edge.outside(0, 11), n -> x -> asking.on(x, 0, n), due);
        Edge.refused("no town", Towns.NOTHING, x -> asking.on(x, 0, 0), due);
        Edge.refused("none and a dead one", DEAD, x -> asking.on(x, 0, 4), due);
    }

    private static void promise19WithoutThese() {
        Edge.refusedEach("writer", Towns.ALL, Edge.outside(0, 4), n -> x -> x.writer(n, 0), MIN);
        Edge.refusedEach("writer of 12", FULL, Edge.outside(0, 11), n -> x -> x.writer(n, 4), MIN);
        Edge.refusedEach("what", Towns.ALL, Edge.outside(0, 12), n -> x -> x.writer(0, n), MIN);
        for (int what = 0; what <= 12; what++) {
            int w = what;
            Edge.refused("no town", Towns.NOTHING, x -> x.writer(0, w), MIN);
            Edge.refused("none", Towns.ALL, x -> x.writer(5, w), MIN);
        }
    }

    private static void promise19SignsItHasNot() {
        BorrowedHands x = Edge.made(Towns.of("writer 1 plain;writer 1 flip 15;writer 1 set 15;writer 1 clear 15;"
            + "writer 1 turn 15;writer 1 swap 15 14;writer 1 copy 15 14"));
        for (int kind = 0; kind <= 6; kind++) {
            Edge.is("kind", x.writer(kind, 1), kind);
            Edge.is("first of kind " + kind, x.writer(kind, 2), kind == 0 ? NONE : 15);
            Edge.is("second of kind " + kind, x.writer(kind, 3), kind < 5 ? NONE : 14);
        }
        x.teach(6, 1, 3, 3);
        Edge.is("it had more", x.writer(6, 3), NONE);
        x.teach(6, 0, 3, 3);
        Edge.is("it had more", x.writer(6, 2), NONE);
    }

    private static void promise19NobodyUnderHim() {
        BorrowedHands x = Edge.made(Towns.of("writer 1 plain;writer 2 plain under 0"));
        Edge.is("nobody", x.writer(0, 4), NONE);
        Edge.is("one hand: himself", x.writer(0, 5), 1);
        Edge.is("the lowest: himself", x.writer(0, 6), 0);
        Edge.is("writer 0 is somebody", x.writer(1, 4), 0);
    }

    private static void promise19TwelveHands() {
        BorrowedHands x = Edge.made(Towns.of(LOW_EIGHT));
        Edge.is("hands", x.writer(11, 5), 12);
        Edge.is("lowest", x.writer(11, 6), 0);
        Edge.is("over the highest", x.writer(11, 12), 0);
        Edge.is("over the lowest, at once", x.writer(0, 12), 2);
        x.sack(6);
        Edge.is("the lowest of two rows", x.writer(11, 6), 6);
        Edge.is("the lowest of two rows", x.writer(5, 6), 0);
    }

    private static void promise19WhetherInAMoodWhetherDead() {
        BorrowedHands x = Edge.made(FULL);
        Edge.is("no mood", x.writer(0, 9), 0);
        Edge.is("not dead", x.writer(0, 10), 0);
        x.day(0);
        x.die(0);
        x.die(11);
        Edge.is("mood", x.writer(0, 9), 1);
        Edge.is("dead", x.writer(0, 10), 1);
        Edge.is("the last dead", x.writer(11, 10), 1);
        Edge.is("another one is not", x.writer(10, 10), 0);
    }

    private static void promise19StockOfNoneAndOfAllBooks() {
        BorrowedHands x = Edge.made(FULL);
        Edge.is("none", x.writer(11, 11), 0);
        for (int b = 3; b >= 0; b--) {
            x.store(11, b);
        }
        Edge.is("all", x.writer(11, 11), 15);
        Edge.is("of another one", x.writer(10, 11), 0);
    }

    private static void promise19NobodyAndAllOverHim() {
        BorrowedHands x = Edge.made(FULL);
        Edge.is("nobody", x.writer(0, 12), 0);
        for (int w = 1; w < 12; w++) {
            x.hire(w, 0);
        }
        Edge.is("all", x.writer(0, 12), 4094);
    }

    private static void promise20WithoutIt() {
        Edge.refusedEach("book", Towns.ALL, Edge.outside(0, 1), n -> x -> x.page(n, 0), NONE);
        Edge.refusedEach("page", Towns.ALL, Edge.outside(0, 2), n -> x -> x.page(0, n), NONE);
        Edge.refusedEach("page of book 1", Towns.ALL, Edge.outside(0, 0), n -> x -> x.page(1, n), NONE);
        Edge.refusedEach("both", Towns.ALL, Edge.outside(0, 2), n -> x -> x.page(n, n), NONE);
        Edge.refusedEach("book of 4", FULL, Edge.outside(0, 3), n -> x -> x.page(n, 0), NONE);
        Edge.refusedEach("page of 8", FULL, Edge.outside(0, 7), n -> x -> x.page(3, n), NONE);
        Edge.refused("no town", Towns.NOTHING, x -> x.page(0, 0), NONE);
    }

    private static void promise20TheLastPageOfTheLastBook() {
        BorrowedHands x = Edge.made(FULL);
        Edge.is("first", x.page(0, 0), 0);
        Edge.is("last of the first", x.page(0, 7), 7);
        Edge.is("first of the last", x.page(3, 0), 8);
        Edge.is("last", x.page(3, 7), 65535);
    }

    private static void promise21WithoutThese() {
        writersAndPages((x, w, b, p) -> x.line(w, b, p), NONE);
    }

    private static void promise21DeadWithoutStock() {
        Edge.refused("line", DEAD, x -> x.line(0, 0, 0), -2);
        Edge.refused("line", DEAD, x -> x.line(0, 0, 1), -2);
        Edge.refused("of one over him", DEAD, x -> x.line(1, 0, 0), -2);
        Edge.refused("stock of another book", DEAD, x -> x.line(2, 1, 0), -2);
        Edge.refused("one over him, of another book", DEAD, x -> x.line(3, 1, 0), -2);
    }

    private static void promise21DeadWithStock() {
        BorrowedHands x = Edge.made(DEAD);
        Edge.is("line", x.line(2, 0, 0), 10);
        Edge.is("line", x.line(2, 0, 1), 11);
        Edge.is("over him", x.line(3, 0, 0), 32768 + 10);
        Edge.is("over him", x.line(3, 0, 1), 32768 + 11);
    }

    private static void promise21DeadWithStockOverOneWithNone() {
        BorrowedHands x = Edge.made(Towns.of("writer 1 flip 0;writer 2 flip 1 under 0;book 0"));
        x.store(1, 0);
        x.die(0);
        Edge.is("alive there is none", x.line(1, 0, 0), -2);
        x.die(1);
        Edge.is("dead there is stock", x.line(1, 0, 0), 3);
    }

    private static void promise21InAMoodItPasses() {
        BorrowedHands x = Edge.made(Towns.of("writer 1 flip 0;writer 2 flip 1 under 0;book 4"));
        x.day(0);
        Edge.is("the lowest", x.line(0, 0, 0), 4);
        Edge.is("over him", x.line(1, 0, 0), 6);
        x.store(0, 0);
        x.die(0);
        Edge.is("stock as it was in the mood", x.line(0, 0, 0), 4);
    }

    private static void habit(String habit, int page, int due) {
        Edge.is(habit + " of " + page, Edge.made(Towns.of("writer 1 " + habit + ";book " + page)).line(0, 0, 0), due);
    }

    private static void promise21TurnGoesRoundFromTheEnd() {
        habit("turn 1", 32768, 1);
        habit("turn 1", 65535, 65535);
        habit("turn 15", 1, 32768);
        habit("turn 15", 2, 1);
        habit("turn 8", 255, 65280);
        habit("turn 8", 65280, 255);
        habit("turn 1", 0, 0);
    }

    private static void promise21HabitsAtTheFirstAndTheLastSign() {
        int[] ends = {0, 15};
        for (int k : ends) {
            habit("flip " + k, 0, 1 << k);
            habit("flip " + k, 65535, 65535 - (1 << k));
            habit("set " + k, 0, 1 << k);
            habit("set " + k, 65535, 65535);
            habit("clear " + k, 0, 0);
            habit("clear " + k, 65535, 65535 - (1 << k));
            habit("swap " + k + " " + (15 - k), 1 << k, 1 << 15 - k);
            habit("swap " + k + " " + (15 - k), 32769, 32769);
            habit("swap " + k + " " + (15 - k), 0, 0);
            habit("copy " + k + " " + (15 - k), 1 << k, 32769);
            habit("copy " + k + " " + (15 - k), 1 << 15 - k, 0);
        }
        habit("plain", 0, 0);
        habit("plain", 65535, 65535);
    }

    private static void promise22WithoutThese() {
        writersAndPages((x, w, b, p) -> x.trace(w, b, p, 0, 0), -3);
        Edge.refusedEach("sign", Towns.ALL, Edge.outside(0, 15), n -> x -> x.trace(0, 0, 0, n, 0), -3);
        Edge.refusedEach("what", Towns.ALL, Edge.outside(0, 1), n -> x -> x.trace(0, 0, 0, 0, n), -3);
        Edge.refused("sign of no line", DEAD, x -> x.trace(0, 0, 0, 16, 0), -3);
        Edge.refused("what of no line", DEAD, x -> x.trace(0, 0, 0, 0, 2), -3);
    }

    private static void promise22NoLine() {
        for (int what = 0; what < 2; what++) {
            int w = what;
            Edge.refused("dead", DEAD, x -> x.trace(0, 0, 0, 15, w), -2);
            Edge.refused("over him", DEAD, x -> x.trace(1, 0, 0, 0, w), -2);
        }
    }

    private static void promise22StockOnTheWay() {
        for (int what = 0; what < 2; what++) {
            int w = what;
            Edge.refused("his own", DEAD, x -> x.trace(2, 0, 0, 0, w), -2);
            Edge.refused("under him", DEAD, x -> x.trace(3, 0, 0, 15, w), -2);
        }
        BorrowedHands x = Edge.made(DEAD);
        x.undo();
        Edge.is("stock of the living is not on the way", x.trace(2, 0, 0, 1, 1), 2);
        x.hire(1, 2);
        Edge.is("nor a dead one who is no hand", x.trace(1, 0, 0, 1, 0), 1);
    }

    private static void promise22SetAndClearedComeFromNone() {
        for (String habit : new String[] {"set", "clear"}) {
            for (int page : new int[] {0, 65535}) {
                BorrowedHands x = Edge.made(Towns.of("writer 1 " + habit + " 15;book " + page));
                boolean changed = habit.equals("set") == (page == 0);
                Edge.is(habit + " from", x.trace(0, 0, 0, 15, 0), NONE);
                Edge.is(habit + " by", x.trace(0, 0, 0, 15, 1), changed ? 0 : NONE);
                Edge.is("another sign from", x.trace(0, 0, 0, 14, 0), 14);
                Edge.is("another sign by", x.trace(0, 0, 0, 14, 1), NONE);
            }
        }
    }

    private static void promise22CopyOfALikeSign() {
        String text = "writer 1 flip 15;writer 2 copy 0 15 under 0;writer 3 copy 15 1 under 1;book ";
        BorrowedHands x = Edge.made(Towns.of(text + "0"));
        Edge.is("unlike: by him", x.trace(1, 0, 0, 15, 1), 1);
        Edge.is("it comes from what the other comes from", x.trace(1, 0, 0, 15, 0), 0);
        Edge.is("like: as it was, by nobody", x.trace(2, 0, 0, 1, 1), NONE);
        Edge.is("like: it comes from the other all the same", x.trace(2, 0, 0, 1, 0), 0);
        BorrowedHands y = Edge.made(Towns.of(text + "1"));
        Edge.is("like: as it was, by who changed it", y.trace(1, 0, 0, 15, 1), 0);
        Edge.is("like: it comes from the other all the same", y.trace(1, 0, 0, 15, 0), 0);
        Edge.is("unlike: by him", y.trace(2, 0, 0, 1, 1), 2);
        Edge.is("who changed the other does not come with it", y.trace(2, 0, 0, 15, 1), 0);
    }

    private static void promise22TurnGoesRoundFromTheEnd() {
        for (int up : new int[] {1, 7, 15}) {
            BorrowedHands x = Edge.made(Towns.of("writer 1 flip 0;writer 2 turn " + up + " under 0;book 0"));
            for (int k = 0; k < 16; k++) {
                Edge.is("turn " + up + " sign " + k, x.trace(1, 0, 0, k, 0), (k + 16 - up) % 16);
                Edge.is("turn " + up + " sign " + k + " by", x.trace(1, 0, 0, k, 1), k == up ? 0 : NONE);
            }
            BorrowedHands y = Edge.made(Towns.of("writer 0 plain;writer 1 flip 5 under 0;writer 2 swap 0 5 under 1;"
                + "writer 3 turn " + up + " under 2;book 0"));
            Edge.is("a sign that was elsewhere", y.trace(3, 0, 0, up, 0), 5);
            Edge.is("who changed it", y.trace(3, 0, 0, up, 1), 1);
        }
    }

    private static void promise22InAMoodHeChangesNone() {
        BorrowedHands x = Edge.made(Towns.of("writer 1 set 0;writer 2 flip 1 under 0;book 0"));
        x.day(0);
        Edge.is("moods", x.count(7), 1);
        Edge.is("it comes from the page", x.trace(0, 0, 0, 0, 0), 0);
        Edge.is("nobody changed it", x.trace(1, 0, 0, 0, 1), NONE);
        Edge.is("one in no mood", x.trace(1, 0, 0, 1, 1), 1);
    }

    private static void promise22TurnAndSwapBringSignsElsewhere() {
        BorrowedHands x = Edge.made(Towns.of("writer 1 flip 15;writer 2 turn 1 under 0;writer 3 swap 0 15 under 1;book 0"));
        Edge.is("round from the end", x.trace(1, 0, 0, 0, 0), 15);
        Edge.is("who changed it goes with it", x.trace(1, 0, 0, 0, 1), 0);
        Edge.is("the one turned to the end", x.trace(1, 0, 0, 15, 0), 14);
        Edge.is("swapped", x.trace(2, 0, 0, 15, 0), 15);
        Edge.is("who changed it goes with it", x.trace(2, 0, 0, 15, 1), 0);
        Edge.is("the other one", x.trace(2, 0, 0, 0, 0), 14);
        Edge.is("nobody changed it", x.trace(2, 0, 0, 0, 1), NONE);
    }

    private static void promise23WithoutThese() {
        writersAndPages((x, w, b, p) -> x.own(w, b, p), NONE);
    }

    private static void promise23AsTrace() {
        for (int writer = 0; writer < 4; writer++) {
            int w = writer;
            Edge.refused("own " + w, DEAD, x -> x.own(w, 0, 0), -2);
        }
        Edge.refused("of another book", DEAD, x -> x.own(3, 1, 0), -2);
    }

    private static void promise23NoneAndTheLastSign() {
        BorrowedHands x = Edge.made(Towns.of("writer 1 flip 15;writer 2 set 15 under 0;writer 3 flip 15 under 1;book 0"));
        Edge.is("the last", x.own(0, 0, 0), 32768);
        Edge.is("none: it was so", x.own(1, 0, 0), 0);
        Edge.is("not what others changed", x.own(2, 0, 0), 32768);
        x.teach(2, 1, 0, 0);
        Edge.is("not what others changed", x.own(2, 0, 0), 1);
    }

    private static void promise24WithoutThese() {
        writersAndPages((x, w, b, p) -> x.pay(w, b, p), NONE);
    }

    private static void promise24AsTrace() {
        Edge.Story story = Towns.of(LOW_EIGHT).and(x -> x.store(0, 0)).and(x -> x.die(0));
        Edge.refused("stock on the way", story, x -> x.pay(11, 0, 0), -2);
        Edge.refused("no line", Towns.of(LOW_EIGHT).and(x -> x.die(0)), x -> x.pay(11, 0, 0), -2);
    }

    private static void promise24AtLeastEight() {
        BorrowedHands x = Edge.made(Towns.of(LOW_EIGHT));
        Edge.is("eight of eight hands", x.pay(7, 0, 0), 7);
        Edge.is("the lowest is the eighth", x.pay(11, 0, 0), 11);
        Edge.refused("seven by all", Towns.of(chain(7, "set ") + ";book 0"), y -> y.pay(11, 0, 0), -2);
        Edge.refused("seven: one was so", Towns.of(chain(8, "set ") + ";book 1"), y -> y.pay(11, 0, 0), -2);
    }

    private static void promise24NoFartherThanNeeded() {
        BorrowedHands x = Edge.made(Towns.of(chain(12, "flip ") + ";book 0"));
        for (int w = 7; w < 12; w++) {
            Edge.is("pay " + w, x.pay(w, 0, 0), 7);
        }
        Edge.is("six hands below him", x.pay(6, 0, 0), -2);
    }

    private static void promise25WithoutThese() {
        twoWriters((x, one, other) -> x.alike(one, other), NONE);
    }

    private static void promise25EachRowThereCanBe() {
        BorrowedHands x = Edge.made(Towns.of("writer 1 plain;writer 1 set 15;writer 1 clear 0;writer 1 copy 15 0;"
            + "writer 1 swap 0 15;writer 1 swap 15 0;writer 1 turn 15;writer 2 turn 1 under 6;book 32769 0"));
        int[][] alike = {{0, 0}, {4, 5}, {7, 0}};
        for (int one = 0; one < 8; one++) {
            for (int other = 0; other < 8; other++) {
                boolean so = one == other;
                for (int[] two : alike) {
                    so |= one == two[0] && other == two[1] || one == two[1] && other == two[0];
                }
                Edge.is("alike " + one + " " + other, x.alike(one, other), so ? 1 : 0);
            }
        }
    }

    private static void promise25WithoutRegardToDeathAndStock() {
        BorrowedHands x = Edge.made(DEAD);
        Edge.is("both flip", x.alike(0, 1), 1);
        Edge.is("unlike flips", x.alike(0, 2), 0);
        Edge.is("over stock", x.alike(2, 3), 0);
        x.teach(3, 0, 0, 0);
        Edge.is("over stock", x.alike(2, 3), 1);
    }

    private static void promise25MoodsAsTheyAre() {
        BorrowedHands x = Edge.made(Towns.of("writer 1 flip 0;writer 2 plain under 0;writer 3 flip 0 under 1;writer 1 plain"));
        Edge.is("he flips", x.alike(0, 3), 0);
        x.day(0);
        Edge.is("moods", x.count(7), 1);
        Edge.is("he lets it pass", x.alike(0, 3), 1);
        Edge.is("one over him flips", x.alike(2, 3), 0);
    }

    private static void promise26ForOthers() {
        Edge.refusedEach("line", Towns.ALL, Edge.outside(0, 65535), n -> x -> x.fits(n, 0), NONE);
        Edge.refusedEach("line, how many", Towns.ALL, Edge.outside(0, 65535), n -> x -> x.fits(n, NONE), NONE);
        Edge.refusedEach("k", Towns.ALL, new int[] {-2, -3, -32, MIN, MIN + 1}, n -> x -> x.fits(8, n), NONE);
        Edge.refused("k, no town", Towns.NOTHING, x -> x.fits(8, -2), NONE);
    }

    private static void promise26ThereAreNotSoMany() {
        Edge.Story story = Towns.of("writer 1 plain;writer 1 plain;book 7 8 7");
        Edge.is("how many", Edge.made(story).fits(7, NONE), 4);
        Edge.is("the last", Edge.made(story).fits(7, 3), 34);
        Edge.refusedEach("k", story, Edge.above(3), n -> x -> x.fits(7, n), -2);
        Edge.refusedEach("of none", story, Edge.above(-1), n -> x -> x.fits(9, n), -2);
        Edge.refused("no town", Towns.NOTHING, x -> x.fits(0, 0), -2);
        Edge.refused("no line", Towns.of("writer 1 plain;book 0").and(x -> x.die(0)), x -> x.fits(0, 0), -2);
    }

    private static void promise26HowMany() {
        Edge.is("no town", new BorrowedHands().fits(0, NONE), 0);
        Edge.is("none", Edge.made(FULL).fits(20, NONE), 0);
        Edge.is("all", Edge.made(Towns.of(Edge.many("writer 1 plain", 12) + ";" + Edge.many("book 7 7 7 7 7 7 7 7", 4)))
            .fits(7, NONE), 384);
        Edge.is("of line 0", Edge.made(FULL).fits(0, NONE), 36);
        Edge.is("of line 65535", Edge.made(FULL).fits(65535, NONE), 12);
    }

    private static void promise26RisingToTheLastPlace() {
        BorrowedHands x = Edge.made(Towns.of(Edge.many("writer 1 plain", 12) + ";" + Edge.many("book 7 7 7 7 7 7 7 7", 4)));
        for (int k = 0; k < 384; k++) {
            Edge.is("k " + k, x.fits(7, k), k);
        }
        Edge.is("behind the last", x.fits(7, 384), -2);
        BorrowedHands y = Edge.made(FULL);
        Edge.is("the last place", y.fits(65535, 11), 32 * 11 + 8 * 3 + 7);
    }

    private static void promise27ForOthers() {
        Edge.refusedEach("line", Towns.ALL, Edge.outside(0, 65535), n -> x -> x.likeliest(n, 0), NONE);
        Edge.refusedEach("what", Towns.ALL, Edge.outside(0, 1), n -> x -> x.likeliest(8, n), NONE);
        Edge.refused("line, no town", Towns.NOTHING, x -> x.likeliest(65536, 0), NONE);
        Edge.refused("what, no town", Towns.NOTHING, x -> x.likeliest(0, 2), NONE);
    }

    private static void promise27ThereAreNoLines() {
        Edge.Story[] stories = {Towns.NOTHING, Towns.of(Towns.TWELVE), Towns.of("book 1"),
            Towns.of("writer 1 plain;book 1").and(x -> x.die(0))};
        for (Edge.Story story : stories) {
            Edge.refused("which", story, x -> x.likeliest(1, 0), -2);
            Edge.refused("how many", story, x -> x.likeliest(1, 1), -2);
        }
    }

    private static void promise27FromNoneToAllSignsUnlike() {
        BorrowedHands x = Edge.made(Towns.of("writer 1 plain;book 0"));
        Edge.is("none", x.likeliest(0, 1), 0);
        Edge.is("one", x.likeliest(32768, 1), 1);
        Edge.is("all", x.likeliest(65535, 1), 16);
        Edge.is("which", x.likeliest(65535, 0), 0);
    }

    private static void promise27OfLikeOnesTheFirst() {
        BorrowedHands x = Edge.made(FULL);
        Edge.is("of 36", x.likeliest(0, 0), 0);
        Edge.is("of 12, the last place of the first writer", x.likeliest(65535, 0), 31);
        x.teach(11, 1, 15, 0);
        Edge.is("the last place", x.likeliest(32767, 0), 32 * 11 + 31);
        BorrowedHands y = Edge.made(Towns.of("writer 1 plain;book 3 5 1 2"));
        Edge.is("one unlike sign each", y.likeliest(7, 0), 0);
        Edge.is("a later one is liker", y.likeliest(2, 0), 3);
    }

    private static void promise28WithoutThese() {
        Edge.refusedEach("writer", Towns.ALL, Edge.outside(0, 4), n -> x -> x.matches(n, 8), NONE);
        Edge.refusedEach("writer of 12", FULL, Edge.outside(0, 11), n -> x -> x.matches(n, 8), NONE);
        Edge.refusedEach("line", Towns.ALL, Edge.outside(0, 65535), n -> x -> x.matches(0, n), NONE);
        Edge.refused("no town", Towns.NOTHING, x -> x.matches(0, 0), NONE);
    }

    private static void promise28FromNoneToAll() {
        BorrowedHands x = Edge.made(Towns.of("writer 1 plain;writer 1 plain;" + Edge.many("book 7 7 7 7 7 7 7 7", 4)));
        Edge.is("all", x.matches(0, 7), 0xFFFFFFFFL);
        Edge.is("all of the last writer", x.matches(1, 7), 0xFFFFFFFFL);
        Edge.is("none", x.matches(0, 8), 0);
        Edge.is("the last alone", Edge.made(FULL).matches(11, 65535), 1L << 31);
        Edge.is("the first of three books", Edge.made(FULL).matches(11, 0), 1 | 1 << 8 | 1 << 16);
        x.die(0);
        Edge.is("no line is none of it", x.matches(0, 7), 0);
        Edge.is("no town's pages", Edge.made(Towns.of("writer 1 plain")).matches(0, 0), 0);
    }

    /** A question of a writer, a book, a page. */
    private interface Asking {
        long on(BorrowedHands x, int writer, int book, int page);
    }

    /** A question of two writers. */
    private interface AskingTwo {
        long on(BorrowedHands x, int one, int other);
    }
}
