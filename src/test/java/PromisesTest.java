/** One method a promise: ordinary inputs, the edges that the document names, wrong inputs. */
public final class PromisesTest {
    private static final int NONE = BorrowedHands.NONE;
    private static final int MIN = Integer.MIN_VALUE;
    private static final int MAX = Integer.MAX_VALUE;
    /* 0 writes himself; 1 is over 0, 2 over 1; 3 writes himself. Lines of page 5: 4, 8, 8, 7. */
    private static final String FOUR = "writer 5 flip 0; writer 10 turn 1 under 0; writer 20 set 3 under 1;"
        + " writer 9 copy 0 1; book 5 65535";
    private static final String EIGHT = "writer 1 set 0;writer 2 set 1 under 0;writer 3 set 2 under 1;"
        + "writer 4 set 3 under 2;writer 5 set 4 under 3;writer 6 set 5 under 4;writer 7 set 6 under 5;"
        + "writer 8 set 7 under 6;book 0";

    private PromisesTest() {
    }

    public static void main(String[] args) {
        promise1(); promise2(); promise3(); promise4(); faults(); promise5(); promise6(); promise7();
        promise8(); promise9(); promise10(); promise11(); promise12(); promise13(); promise14(); promise15();
        promise16(); promise17And18(); promise19(); promise20(); promise21(); habits(); promise22(); promise23();
        promise24(); promise25(); promise26(); promise27(); promise28(); promise29(); promise30(); promise31();
        promise32(); promise33(); promise34(); promise35(); promise36(); promise37(); promise38(); promise39();
        promise40(); promise41(); refusals(); fullTown(); fullTape();
        Due.finish("PromisesTest");
    }

    private static void promise1() {
        BorrowedHands x = new BorrowedHands();
        Due.is("1 NONE", BorrowedHands.NONE, -1);
        for (int what = 0; what <= 13; what++) {
            Due.is("1 count " + what, x.count(what), 0);
        }
        Due.is("1 writer", x.writer(0, 0), MIN);
        Due.is("1 page", x.page(0, 0), NONE);
        Due.is("1 see without a town", x.see(7), 1);
        Due.is("1 keep without a town", x.keep(0), 0);
    }

    private static void promise2() {
        BorrowedHands x = new BorrowedHands();
        for (int i = 1; i <= 20; i++) {
            Due.is("2 feed " + i, x.feed(0, 0, 0, 0, 0), 20 * i);
        }
        Due.is("2 feed too many", x.feed(0, 0, 0, 0, 0), NONE);
        Due.is("2 tape", x.count(11), 400);
        x.end(381);
        Due.is("2 feed at 381", x.feed(0, 0, 0, 0, 0), NONE);
        x.end(380);
        Due.is("2 feed at 380", x.feed(0, 0, 0, 0, 0), 400);
        x.end(0);
        x.feed(0x626f6f6b, 0x20373b20, 0x20202020, 0x20202020, 0x626f6f6b);
        x.feed(0x20313020, 0x20202020, 0x20202020, 0x20202020, 0x20202020);
        Due.is("2 tell", x.tell(), 0);
        Due.is("2 highest byte first", x.page(0, 0), 7);
        Due.is("2 second feed", x.page(1, 0), 10);
    }

    private static void promise3() {
        BorrowedHands x = new BorrowedHands();
        Due.is("3 end 0 of nothing", x.end(0), 0);
        Due.is("3 end 1 of nothing", x.end(1), NONE);
        x.feed(0, 0, 0, 0, 0);
        Due.is("3 end -1", x.end(-1), NONE);
        Due.is("3 end MIN", x.end(MIN), NONE);
        Due.is("3 end 21", x.end(21), NONE);
        Due.is("3 end 20", x.end(20), 20);
        Due.is("3 end 5", x.end(5), 5);
        Due.is("3 end 6", x.end(6), NONE);
        Due.is("3 tape", x.count(11), 5);
        Due.is("3 feed behind", x.feed(0, 0, 0, 0, 0), 25);
    }

    private static void promise4() {
        BorrowedHands x = Due.town(FOUR);
        x.praise(2, 100);
        x.order(2, 100);
        x.day(0);
        x.store(3, 0);
        x.die(3);
        x.see(1);
        x.keep(1);
        Due.is("4 fault", Due.tell(x, "writer 5 odd"), -2 - (8 * 9 + 1));
        Due.is("4 tape is empty behind a fault", x.count(11), 0);
        Due.is("4 town stays behind a fault", x.count(0), 4);
        Due.is("4 acts stay behind a fault", x.count(10), 6);
        Due.is("4 tell", Due.tell(x, FOUR), 4);
        for (int what : new int[] {5, 6, 7, 8, 9, 10, 11, 13}) {
            Due.is("4 count " + what, x.count(what), 0);
        }
        Due.is("4 stock", x.writer(3, 11), 0);
        Due.is("4 shelves stay", x.count(12), 2);
        Due.is("4 undo", x.undo(), NONE);
        Due.is("4 empty text", x.tell(), 0);
        Due.is("4 no books", x.count(1), 0);
        Due.is("4 blanks alone", Due.tell(x, "   "), 0);
        Due.is("4 close", Due.tell(x, "writer7copy15 0;book0 65535;writer9swap0 1under0"), 2);
        Due.is("4 close purse", x.writer(1, 0), 9);
        Due.is("4 close under", x.writer(1, 4), 0);
        Due.is("4 close page", x.page(0, 1), 65535);
        Due.is("4 zeros ahead", Due.tell(x, "book 0000000000000000012"), 0);
        Due.is("4 zeros ahead page", x.page(0, 0), 12);
        Due.is("4 eight pages", Due.tell(x, "book 1 2 3 4 5 6 7 8;book 1;book 2;book 3"), 0);
        Due.is("4 all pages", x.count(2), 11);
        Due.is("4 twelve", Due.tell(x, many("writer 0 plain", 12)), 12);
    }

    private static String many(String part, int times) {
        StringBuilder text = new StringBuilder(part);
        for (int i = 1; i < times; i++) {
            text.append(";").append(part);
        }
        return text.toString();
    }

    private static void fault(String text, int place, int why) {
        BorrowedHands x = new BorrowedHands();
        Due.is("fault of \"" + text + "\"", Due.tell(x, text), -2 - (8 * place + why));
    }

    private static void faults() {
        fault(";", 0, 1);
        fault("  ;", 2, 1);
        fault("5", 0, 1);
        fault("Writer 5 plain", 0, 1);
        fault("writer", 6, 1);
        fault("writer  ", 8, 1);
        fault("writer x", 7, 1);
        fault("writerplain", 0, 1);
        fault("writerz 5 plain", 0, 1);
        fault("writera 5 plain", 0, 1);
        fault("writer{5 plain", 6, 1);
        fault("writer`5 plain", 6, 1);
        fault("writer 5/plain", 8, 1);
        fault("writer 5:plain", 8, 1);
        fault("writer -1 plain", 7, 1);
        fault("writer 100 plain", 7, 2);
        fault("writer 99999999999999999999 plain", 7, 2);
        fault("writer 4294967296 plain", 7, 2);
        fault("writer 5 plai", 9, 1);
        fault("writer 5 plainx", 9, 1);
        fault("writer 5 flip", 13, 1);
        fault("writer 5 flip under", 14, 1);
        fault("writer 5 flip 16", 14, 2);
        fault("writer 5 set 16", 13, 2);
        fault("writer 5 clear 16", 15, 2);
        fault("writer 5 turn 0", 14, 2);
        fault("writer 5 turn 16", 14, 2);
        fault("writer 5 swap 3", 15, 1);
        fault("writer 5 swap 3 3", 16, 2);
        fault("writer 5 swap 16 16", 14, 2);
        fault("writer 5 copy 3 16", 16, 2);
        fault("writer 5 copy 3 03", 16, 2);
        fault("writer 5 plain 3", 15, 1);
        fault("writer 5 plain over 3", 15, 1);
        fault("writer 5 plain under", 20, 1);
        fault("writer 5 plain under 0", 21, 2);
        fault("writer 5 plain;writer 5 plain under 1", 36, 2);
        fault("writer 5 plain;writer 5 plain under 0", 36, 4);
        fault("writer 5 plain;writer 6 plain under 0 0", 38, 1);
        fault("writer 5 plain;", 15, 1);
        fault("writer 5 plain;;", 15, 1);
        fault("writer 5 plain book 1", 15, 1);
        fault("writer 5 plain\t", 14, 1);
        fault("writer 5 plain" + (char) 233, 14, 1);
        fault("book", 4, 1);
        fault("book;", 4, 1);
        fault("books 1", 0, 1);
        fault("book 1 x", 7, 1);
        fault("book 65536", 5, 2);
        fault("book 1,2", 6, 1);
        fault("book 1 2 3 4 5 6 7 8 9", 21, 3);
        fault("book 1 2 3 4 5 6 7 8 65536", 21, 2);
        fault("book 1 2 3 4 5 6 7 8 x", 21, 1);
        fault(many("book 1", 5), 28, 3);
        fault(many("book 1", 4) + ";bool 1", 28, 1);
        fault(many("writer 0 plain", 12) + "; writer", 181, 3);
        fault(many("writer 0 plain", 12) + ";books", 180, 1);
        String[] wrongAgain = {";x", ";writer 100 plain", " x", ";book 65536", ""};
        for (String more : wrongAgain) {
            fault("writer 100 plain" + more, 7, 2);
            fault("writer 5 odd" + more, 9, 1);
            fault("writer 5 flip 16" + more, 14, 2);
            fault("writer 5 swap 1 1" + more, 16, 2);
            fault("writer 5 plain under 0" + more, 21, 2);
            fault("writer 5 plain;writer 5 plain under 0" + more, 36, 4);
            fault("book 65536" + more, 5, 2);
            fault("book 1 2 3 4 5 6 7 8 9" + more, 21, 3);
            fault(many("book 1", 5) + more, 28, 3);
            fault("x" + more, 0, 1);
        }
    }

    private static void promise5() {
        BorrowedHands x = Due.town(FOUR);
        Due.is("5 so it is", x.hire(1, 0), -2);
        Due.is("5 richer", x.hire(0, 1), -3);
        Due.is("5 himself", x.hire(3, 3), -3);
        Due.is("5 hire", x.hire(2, 3), 2);
        Due.is("5 under", x.writer(2, 4), 3);
        Due.is("5 hire more", x.hire(3, 0), 2);
        Due.is("5 longer", x.writer(2, 5), 3);
        Due.is("5 acts", x.count(10), 2);
        for (int bad : new int[] {-1, 4, MIN, MAX}) {
            Due.is("5 hire " + bad, x.hire(bad, 0), NONE);
            Due.is("5 hire under " + bad, x.hire(2, bad), NONE);
        }
        x.die(0);
        Due.is("5 dead and so", x.hire(1, 0), -4);
        Due.is("5 dead and richer", x.hire(0, 1), -4);
        Due.is("5 dead", x.hire(2, 0), -4);
        Due.is("5 none ahead of dead", x.hire(0, 4), NONE);
        Due.is("5 equal purses", Due.town(many("writer 3 plain", 2)).hire(0, 1), -3);
    }

    private static void promise6() {
        BorrowedHands x = Due.town(FOUR);
        Due.is("6 sack", x.sack(2), 1);
        Due.is("6 under", x.writer(2, 4), NONE);
        Due.is("6 again", x.sack(2), -2);
        Due.is("6 wrong", x.sack(4), NONE);
        Due.is("6 wrong", x.sack(-1), NONE);
        Due.is("6 acts", x.count(10), 1);
        x.die(0);
        Due.is("6 one over the dead", x.sack(1), 0);
        Due.is("6 dead ahead of nobody", x.sack(0), -4);
    }

    private static void promise7() {
        BorrowedHands x = Due.town(FOUR);
        Due.is("7 the same, rest does not matter", x.teach(0, 1, 0, 77), -2);
        Due.is("7 another sign", x.teach(0, 1, 1, -5), 1);
        Due.is("7 plain", x.teach(0, 0, MIN, MAX), 1);
        Due.is("7 plain again", x.teach(0, 0, 3, 3), -2);
        Due.is("7 swap", x.teach(0, 5, 3, 4), 0);
        Due.is("7 swap the other way is another habit", x.teach(0, 5, 4, 3), 5);
        Due.is("7 copy", x.teach(0, 6, 4, 3), 5);
        Due.is("7 first", x.writer(0, 2), 4);
        Due.is("7 second", x.writer(0, 3), 3);
        Due.is("7 turn 15", x.teach(0, 4, 15, 99), 6);
        Due.is("7 turn 15 again", x.teach(0, 4, 15, 98), -2);
        int[][] bad = {{4, 0, 0, 0}, {-1, 0, 0, 0}, {0, -1, 0, 0}, {0, 7, 0, 0}, {0, 1, 16, 0}, {0, 1, -1, 0},
            {0, 2, 16, 0}, {0, 3, 16, 0}, {0, 4, 0, 0}, {0, 4, 16, 0}, {0, 5, 3, 3}, {0, 5, 3, 16},
            {0, 5, 16, 3}, {0, 6, 3, -1}, {0, 6, -1, 3}, {0, 6, 9, 9}};
        for (int[] b : bad) {
            Due.is("7 " + java.util.Arrays.toString(b), x.teach(b[0], b[1], b[2], b[3]), NONE);
        }
        Due.is("7 acts", x.count(10), 6);
        x.die(0);
        Due.is("7 dead ahead of so", x.teach(0, 4, 15, 0), -4);
        Due.is("7 none ahead of dead", x.teach(0, 7, 0, 0), NONE);
    }

    private static void promise8() {
        BorrowedHands x = Due.town(FOUR);
        Due.is("8 praise", x.praise(2, 105), 95);
        Due.is("8 fame 2", x.writer(2, 7), 95);
        Due.is("8 fame 1", x.writer(1, 7), 9);
        Due.is("8 fame 0", x.writer(0, 7), 1);
        Due.is("8 less than ten stays", x.praise(2, 9), 9);
        Due.is("8 fame 1 stays", x.writer(1, 7), 9);
        Due.is("8 without one under", x.praise(3, 9999), 9999);
        x.die(0);
        Due.is("8 to the dead", x.praise(1, 10), 9);
        Due.is("8 the dead have fame", x.writer(0, 7), 2);
        for (int bad : new int[] {0, -1, 10000, MIN, MAX}) {
            Due.is("8 praise " + bad, x.praise(0, bad), NONE);
        }
        Due.is("8 who", x.praise(4, 5), NONE);
        Due.is("8 who", x.praise(-1, 5), NONE);
        Due.is("8 acts", x.count(10), 5);
    }

    private static void promise9() {
        BorrowedHands x = Due.town(FOUR);
        Due.is("9 blame", x.blame(2, 30), -30);
        Due.is("9 stays", x.count(5), -30);
        Due.is("9 more", x.blame(2, 9999), -10029);
        Due.is("9 one under", x.writer(1, 7), 0);
        for (int bad : new int[] {0, -1, 10000, MIN, MAX}) {
            Due.is("9 blame " + bad, x.blame(0, bad), NONE);
        }
        Due.is("9 who", x.blame(4, 5), NONE);
        Due.is("9 acts", x.count(10), 2);
    }

    private static void promise10() {
        BorrowedHands x = Due.town(FOUR);
        Due.is("10 order", x.order(2, 7), 1);
        Due.is("10 coins 2", x.writer(2, 8), 4);
        Due.is("10 coins 1", x.writer(1, 8), 2);
        Due.is("10 coins 0", x.writer(0, 8), 1);
        Due.is("10 one coin", x.order(2, 1), 0);
        Due.is("10 coins 2 of one", x.writer(2, 8), 5);
        Due.is("10 alone", x.order(3, 9999), 9999);
        Due.is("10 all", x.count(6), 10007);
        for (int bad : new int[] {0, -1, 10000, MIN, MAX}) {
            Due.is("10 order " + bad, x.order(0, bad), NONE);
        }
        Due.is("10 who", x.order(4, 5), NONE);
        Due.is("10 acts", x.count(10), 3);
    }

    private static void promise11() {
        BorrowedHands x = Due.town(FOUR);
        Due.is("11 day 0", x.day(0), 1);
        Due.is("11 moods come late", x.day(7), 3);
        Due.is("11 later", x.day(1), dayOne() | 2 | 4);
        Due.is("11 days", x.count(13), 3);
        x.die(2);
        Due.is("11 the dead, too", x.day(MIN) & 4, 4);
        Due.is("11 acts", x.count(10), 5);
        Due.is("11 no town", new BorrowedHands().day(MAX), 0);
    }

    /* The draws of writers 0 and 3 by the seed 1, in numbers too large to wrap. */
    private static int dayOne() {
        long x = (1103515245L + 12345L) & 0xFFFFFFFFL;
        int moods = x / 65536 % 3 == 0 ? 1 : 0;
        x = (1103515245L * x + 12345L) & 0xFFFFFFFFL;
        return x / 65536 % 3 == 0 ? moods | 8 : moods;
    }

    private static void promise12() {
        BorrowedHands x = Due.town(FOUR + ";book 9");
        Due.is("12 store", x.store(1, 0), 2);
        Due.is("12 stocked", x.writer(1, 11), 1);
        Due.is("12 the living do not use it", x.teach(1, 0, 0, 0), 4);
        Due.is("12 line", x.line(1, 0, 0), 4);
        Due.is("12 other book", x.store(1, 1), 1);
        Due.is("12 stocked", x.writer(1, 11), 3);
        Due.is("12 in place of other ones", x.store(1, 0), 2);
        x.die(1);
        Due.is("12 stock of new lines", x.line(1, 0, 0), 4);
        Due.is("12 second page", x.line(1, 0, 1), 65534);
        Due.is("12 dead", x.store(1, 0), -4);
        x.die(3);
        x.hire(2, 1);
        x.sack(2);
        Due.is("12 wrong book", x.store(2, 2), NONE);
        Due.is("12 wrong book", x.store(2, -1), NONE);
        Due.is("12 wrong writer", x.store(4, 0), NONE);
        BorrowedHands y = Due.town(FOUR);
        y.die(0);
        Due.is("12 no lines", y.store(2, 0), -2);
        Due.is("12 acts", y.count(10), 1);
    }

    private static void promise13() {
        BorrowedHands x = Due.town(FOUR);
        Due.is("13 die", x.die(0), 3);
        Due.is("13 dead", x.writer(0, 10), 1);
        Due.is("13 again", x.die(0), -4);
        Due.is("13 wrong", x.die(4), NONE);
        Due.is("13 wrong", x.die(-1), NONE);
        Due.is("13 another", x.die(3), 4);
        Due.is("13 without books", Due.town("writer 5 plain").die(0), 0);
        BorrowedHands y = Due.town(FOUR + ";book 7");
        y.store(1, 0);
        Due.is("13 stock of one book alone", y.die(1), 2);
        y.undo();
        y.store(1, 1);
        Due.is("13 stock of all", y.die(1), 0);
    }

    private static void promise14() {
        BorrowedHands x = Due.town(FOUR);
        Due.is("14 wrong", x.see(-1), NONE);
        Due.is("14 wrong", x.see(65536), NONE);
        for (int i = 1; i <= 16; i++) {
            Due.is("14 see " + i, x.see(i % 2 * 65535), i);
        }
        Due.is("14 too many", x.see(0), -3);
        Due.is("14 wrong ahead of too many", x.see(65536), NONE);
        Due.is("14 seen", x.count(9), 16);
        Due.is("14 acts", x.count(10), 10);
    }

    private static void promise15() {
        BorrowedHands x = Due.town(FOUR);
        Due.is("15 nothing", x.forget(), NONE);
        Due.is("15 acts", x.count(10), 0);
        x.see(1);
        x.see(2);
        Due.is("15 forget", x.forget(), 2);
        Due.is("15 seen", x.count(9), 0);
        Due.is("15 again", x.forget(), NONE);
        Due.is("15 undo", x.undo(), 2);
        Due.is("15 seen again", x.count(9), 2);
    }

    private static void promise16() {
        BorrowedHands x = Due.town(FOUR);
        Due.is("16 nothing", x.undo(), NONE);
        for (int i = 0; i < 12; i++) {
            x.blame(0, 1);
        }
        Due.is("16 ten at most", x.count(10), 10);
        for (int i = 9; i >= 0; i--) {
            Due.is("16 undo", x.undo(), i);
            Due.is("16 fame", x.writer(0, 7), -2 - i);
        }
        Due.is("16 none more", x.undo(), NONE);
        Due.is("16 two stay", x.writer(0, 7), -2);
        x.hire(2, 3); x.sack(1); x.teach(0, 0, 0, 0); x.praise(2, 10); x.order(1, 10);
        x.day(0); x.store(3, 0); x.die(3); x.see(4); x.forget();
        int[] left = new int[10];
        for (int i = 0; i < 10; i++) {
            left[i] = x.undo();
            Due.is("16 undo all", left[i], 9 - i);
        }
        Due.is("16 under 2", x.writer(2, 4), 1);
        Due.is("16 under 1", x.writer(1, 4), 0);
        Due.is("16 kind 0", x.writer(0, 1), 1);
        Due.is("16 fame", x.count(5), -2);
        for (int what : new int[] {6, 7, 8, 9, 13}) {
            Due.is("16 count " + what, x.count(what), 0);
        }
        Due.is("16 stock", x.writer(3, 11), 0);
    }

    private static void promise17And18() {
        BorrowedHands x = Due.town(FOUR);
        Due.is("17 wrong", x.keep(2), NONE);
        Due.is("17 wrong", x.keep(-1), NONE);
        Due.is("18 wrong", x.back(2), NONE);
        Due.is("18 wrong", x.back(-1), NONE);
        Due.is("18 nothing", x.back(0), -2);
        x.see(3);
        x.praise(0, 5);
        x.day(0);
        x.store(0, 0);
        Due.is("17 keep", x.keep(0), 4);
        Due.is("17 is no act", x.count(10), 4);
        Due.is("17 kept", x.count(12), 1);
        x.die(0);
        x.forget();
        Due.is("4 another town", Due.tell(x, "writer 1 plain"), 1);
        Due.is("17 keep another", x.keep(1), 1);
        x.see(1);
        Due.write(x, "book 7");
        Due.is("18 back", x.back(0), 4);
        Due.is("18 undo", x.undo(), NONE);
        Due.is("18 tape stays", x.count(11), 6);
        Due.is("18 seen", x.count(9), 1);
        Due.is("18 fame", x.count(5), 5);
        Due.is("18 days", x.count(13), 1);
        Due.is("18 moods", x.count(7), 1);
        Due.is("18 nobody dead", x.count(8), 0);
        Due.is("18 stock", x.writer(0, 11), 1);
        x.die(0);
        Due.is("18 stock stands", x.line(0, 0, 0), 5);
        Due.is("18 shelves stay", x.count(12), 3);
        Due.is("18 back to the other", x.back(1), 1);
        Due.is("18 back twice", x.back(0), 4);
        Due.is("18 shelf was not touched", x.count(8), 0);
    }

    private static void promise19() {
        BorrowedHands x = Due.town(FOUR);
        int[][] due = {{5, 1, 0, NONE, NONE, 1, 0, 0, 0, 0, 0, 0, 2}, {10, 4, 1, NONE, 0, 2, 0, 0, 0, 0, 0, 0, 4},
            {20, 2, 3, NONE, 1, 3, 0, 0, 0, 0, 0, 0, 0}, {9, 6, 0, 1, NONE, 1, 3, 0, 0, 0, 0, 0, 0}};
        for (int w = 0; w < 4; w++) {
            for (int what = 0; what < 13; what++) {
                Due.is("19 writer " + w + " " + what, x.writer(w, what), due[w][what]);
            }
        }
        x.praise(0, 3); x.order(0, 4); x.day(0); x.store(0, 0); x.die(0);
        int[] changed = {5, 1, 0, NONE, NONE, 1, 0, 3, 4, 1, 1, 1, 2};
        for (int what = 0; what < 13; what++) {
            Due.is("19 changed " + what, x.writer(0, what), changed[what]);
        }
        x.hire(3, 1);
        x.teach(3, 0, 0, 0);
        Due.is("19 plain has no signs", x.writer(3, 2), NONE);
        Due.is("19 wrong", x.writer(0, 13), MIN);
        Due.is("19 wrong", x.writer(0, -1), MIN);
        Due.is("19 wrong", x.writer(4, 0), MIN);
        Due.is("19 wrong", x.writer(-1, 0), MIN);
        BorrowedHands y = Due.town("writer 1 plain;writer 2 plain under 0;writer 3 plain under 0;writer 4 plain under 2");
        Due.is("19 two over one", y.writer(0, 12), 6);
    }

    private static void promise20() {
        BorrowedHands x = Due.town(FOUR + "; book 9");
        Due.is("20 page", x.page(0, 0), 5);
        Due.is("20 page", x.page(0, 1), 65535);
        Due.is("20 page", x.page(1, 0), 9);
        int[][] bad = {{0, 2}, {0, -1}, {1, 1}, {2, 0}, {-1, 0}, {MAX, MAX}, {MIN, MIN}};
        for (int[] b : bad) {
            Due.is("20 wrong", x.page(b[0], b[1]), NONE);
        }
    }

    private static void promise21() {
        BorrowedHands x = Due.town(FOUR);
        int[] due = {4, 8, 8, 7};
        for (int w = 0; w < 4; w++) {
            Due.is("21 line " + w, x.line(w, 0, 0), due[w]);
        }
        x.day(0);
        Due.is("21 in a mood it passes as it comes", x.line(0, 0, 0), 5);
        Due.is("21 over one in a mood", x.line(1, 0, 0), 10);
        x.undo();
        x.store(1, 0);
        x.die(0);
        Due.is("21 dead without stock", x.line(0, 0, 0), -2);
        Due.is("21 none under him, though he has stock", x.line(1, 0, 0), -2);
        x.die(1);
        Due.is("21 stock", x.line(1, 0, 0), 8);
        x.teach(2, 1, 15, 0);
        Due.is("21 over stock", x.line(2, 0, 0), 32776);
        Due.is("21 wrong writer", x.line(4, 0, 0), NONE);
        Due.is("21 wrong writer", x.line(-1, 0, 0), NONE);
        Due.is("21 wrong book", x.line(0, 1, 0), NONE);
        Due.is("21 wrong page", x.line(0, 0, 2), NONE);
        Due.is("21 wrong page", x.line(0, 0, -1), NONE);
    }

    private static void habit(String habit, int page, int due) {
        Due.is(habit + " of " + page, Due.town("writer 1 " + habit + ";book " + page).line(0, 0, 0), due);
    }

    private static void habits() {
        habit("plain", 1234, 1234);
        habit("flip 15", 32769, 1);
        habit("flip 15", 1, 32769);
        habit("set 4", 0, 16);
        habit("set 4", 16, 16);
        habit("clear 4", 65535, 65519);
        habit("clear 4", 0, 0);
        habit("turn 1", 32768, 1);
        habit("turn 15", 1, 32768);
        habit("turn 15", 3, 32769);
        habit("turn 4", 0x1234, 0x2341);
        habit("swap 0 15", 1, 32768);
        habit("swap 0 15", 32768, 1);
        habit("swap 0 15", 32769, 32769);
        habit("copy 0 15", 1, 32769);
        habit("copy 0 15", 32768, 0);
        habit("copy 15 0", 32768, 32769);
    }

    private static void trace(BorrowedHands x, int writer, int sign, int from, int by) {
        Due.is("22 trace " + writer + " " + sign + " from", x.trace(writer, 0, 0, sign, 0), from);
        Due.is("22 trace " + writer + " " + sign + " by", x.trace(writer, 0, 0, sign, 1), by);
    }

    private static void promise22() {
        BorrowedHands x = Due.town("writer 1 flip 0;writer 2 turn 3 under 0;writer 3 copy 3 5 under 1;"
            + "writer 4 swap 5 15 under 2;writer 5 set 15 under 3;writer 6 clear 15 under 4;"
            + "writer 7 copy 15 3 under 5;writer 8 copy 15 14 under 6;book 0");
        trace(x, 0, 0, 0, 0);
        trace(x, 0, 1, 1, NONE);
        trace(x, 1, 3, 0, 0);
        trace(x, 1, 0, 13, NONE);
        trace(x, 2, 5, 0, 2);
        trace(x, 2, 3, 0, 0);
        trace(x, 3, 15, 0, 2);
        trace(x, 3, 5, 12, NONE);
        trace(x, 4, 15, NONE, 2);
        trace(x, 5, 15, NONE, 5);
        trace(x, 6, 3, NONE, 6);
        trace(x, 7, 14, NONE, NONE);
        Due.is("22 wrong sign", x.trace(0, 0, 0, 16, 0), -3);
        Due.is("22 wrong sign", x.trace(0, 0, 0, -1, 0), -3);
        Due.is("22 wrong what", x.trace(0, 0, 0, 0, 2), -3);
        Due.is("22 wrong what", x.trace(0, 0, 0, 0, -1), -3);
        Due.is("22 wrong writer", x.trace(8, 0, 0, 0, 0), -3);
        Due.is("22 wrong page", x.trace(0, 0, 1, 0, 0), -3);
        Due.is("22 wrong book", x.trace(0, 1, 0, 0, 0), -3);
        x.store(1, 0);
        trace(x, 1, 3, 0, 0);
        x.die(1);
        trace(x, 0, 0, 0, 0);
        Due.is("22 stock", x.trace(1, 0, 0, 0, 0), -2);
        Due.is("22 stock on the way", x.trace(7, 0, 0, 0, 1), -2);
        Due.is("22 wrong ahead of stock", x.trace(7, 0, 0, 16, 1), -3);
        x.die(0);
        Due.is("22 no line", x.trace(0, 0, 0, 0, 0), -2);
        BorrowedHands y = Due.town("writer 1 flip 0;book 0");
        y.day(0);
        trace(y, 0, 0, 0, NONE);
    }

    private static void promise23() {
        BorrowedHands x = Due.town(FOUR);
        Due.is("23 own", x.own(0, 0, 0), 1);
        Due.is("23 own", x.own(1, 0, 0), 0);
        Due.is("23 own", x.own(3, 0, 0), 2);
        Due.is("23 own", x.own(3, 0, 1), 0);
        Due.is("23 wrong", x.own(4, 0, 0), NONE);
        Due.is("23 wrong", x.own(0, 1, 0), NONE);
        Due.is("23 wrong", x.own(0, 0, 2), NONE);
        x.store(0, 0);
        x.die(0);
        Due.is("23 stock", x.own(0, 0, 0), -2);
        Due.is("23 stock on the way", x.own(2, 0, 0), -2);
    }

    private static void promise24() {
        BorrowedHands x = Due.town(EIGHT);
        Due.is("24 pay", x.pay(7, 0, 0), 7);
        Due.is("24 not by all", x.pay(6, 0, 0), -2);
        Due.is("24 wrong", x.pay(8, 0, 0), NONE);
        Due.is("24 wrong", x.pay(7, 1, 0), NONE);
        Due.is("24 wrong", x.pay(7, 0, 1), NONE);
        x.store(0, 0);
        x.die(0);
        Due.is("24 stock", x.pay(7, 0, 0), -2);
        BorrowedHands y = Due.town("writer 0 plain;" + EIGHT.replace("under 6", "under 7").replace("under 5", "under 6")
            .replace("under 4", "under 5").replace("under 3", "under 4").replace("under 2", "under 3")
            .replace("under 1", "under 2").replace("under 0", "under 1"));
        y.hire(1, 0);
        Due.is("24 the lowest need not be paid", y.pay(8, 0, 0), 7);
    }

    private static void promise25() {
        BorrowedHands x = Due.town("writer 1 flip 3;writer 2 flip 3 under 0;writer 3 plain;writer 4 swap 1 2;"
            + "writer 5 swap 2 1;writer 6 set 0;writer 7 copy 1 0;writer 8 set 0 under 6;writer 9 turn 8;"
            + "writer 10 turn 8 under 8;book 0");
        Due.is("25 himself", x.alike(0, 0), 1);
        Due.is("25 two flips", x.alike(1, 2), 1);
        Due.is("25 a flip", x.alike(0, 2), 0);
        Due.is("25 swaps", x.alike(3, 4), 1);
        Due.is("25 set and copy", x.alike(5, 6), 0);
        Due.is("25 set over copy", x.alike(7, 5), 1);
        Due.is("25 two turns", x.alike(9, 2), 1);
        Due.is("25 wrong", x.alike(0, 10), NONE);
        Due.is("25 wrong", x.alike(-1, 0), NONE);
        x.die(0);
        Due.is("25 without regard to death", x.alike(1, 2), 1);
        BorrowedHands y = Due.town("writer 1 flip 3;writer 2 flip 2");
        y.day(0);
        Due.is("25 a mood", y.writer(0, 9), 1);
        Due.is("25 moods as they are", y.alike(0, 1), 0);
        y.teach(1, 0, 0, 0);
        Due.is("25 a mood is as plain", y.alike(0, 1), 1);
    }

    private static void promise26() {
        BorrowedHands x = Due.town(FOUR + ";book 10 5 9");
        Due.is("26 how many", x.fits(4, NONE), 2);
        Due.is("26 first", x.fits(4, 0), 0);
        Due.is("26 second", x.fits(4, 1), 9);
        Due.is("26 not so many", x.fits(4, 2), -2);
        Due.is("26 none", x.fits(1000, NONE), 0);
        Due.is("26 none", x.fits(1000, 0), -2);
        Due.is("26 two writers", x.fits(11, 0), 8);
        Due.is("26 two writers", x.fits(11, 1), 96 + 8 + 2);
        Due.is("26 wrong", x.fits(65536, 0), NONE);
        Due.is("26 wrong", x.fits(-1, 0), NONE);
        Due.is("26 wrong", x.fits(4, -2), NONE);
        Due.is("26 wrong", x.fits(4, MIN), NONE);
        Due.is("26 far", x.fits(4, MAX), -2);
    }

    private static void promise27() {
        BorrowedHands x = Due.town(FOUR);
        Due.is("27 first of like ones", x.likeliest(9, 0), 32);
        Due.is("27 unlike signs", x.likeliest(9, 1), 1);
        Due.is("27 the same", x.likeliest(7, 0), 96);
        Due.is("27 the same", x.likeliest(7, 1), 0);
        Due.is("27 wrong", x.likeliest(7, 2), NONE);
        Due.is("27 wrong", x.likeliest(7, -1), NONE);
        Due.is("27 wrong", x.likeliest(65536, 0), NONE);
        Due.is("27 wrong", x.likeliest(-1, 0), NONE);
        x.die(0);
        x.die(3);
        Due.is("27 no lines", x.likeliest(7, 0), -2);
        Due.is("27 no lines", x.likeliest(7, 1), -2);
        BorrowedHands y = Due.town("writer 0 plain;book 0");
        Due.is("27 all unlike", y.likeliest(65535, 1), 16);
    }

    private static void promise28() {
        BorrowedHands x = Due.town("writer 1 plain;book 1;book 2;book 3;book 1 2 3 4 5 6 7 1;writer 2 flip 0 under 0");
        Due.is("28 matches", x.matches(0, 1), 1L << 31 | 1L << 24 | 1L);
        Due.is("28 matches", x.matches(1, 3), 1L << 8 | 1L << 25);
        Due.is("28 none", x.matches(1, 99), 0);
        Due.is("28 wrong", x.matches(2, 1), NONE);
        Due.is("28 wrong", x.matches(-1, 1), NONE);
        Due.is("28 wrong", x.matches(0, 65536), NONE);
        Due.is("28 wrong", x.matches(0, -1), NONE);
        x.die(0);
        Due.is("28 no lines", x.matches(0, 1), 0);
    }

    private static void promise29() {
        BorrowedHands x = Due.town(many("writer 1 plain", 1) + ";writer 2 plain;writer 3 plain;writer 3 plain;book 6 7");
        Due.is("29 nothing seen", x.trees(0, 0), NONE);
        x.see(6); x.see(6); x.see(6); x.see(6);
        Due.is("29 trees", x.trees(0, 0), 1 * 2 * 3 * 3);
        Due.is("29 of another page", x.trees(0, 1), 0);
        Due.is("29 wrong", x.trees(0, 2), NONE);
        Due.is("29 wrong", x.trees(1, 0), NONE);
        x.day(0);
        x.die(2);
        Due.is("29 as if in no mood, not dead", x.trees(0, 0), 18);
        x.see(6);
        Due.is("29 more than writers", x.trees(0, 0), NONE);
    }

    private static void promise30() {
        BorrowedHands x = Due.town("writer 1 plain;writer 2 plain;writer 3 flip 0;writer 3 plain;book 6 7");
        Due.is("30 nothing seen", x.under(0, 0, 0), NONE);
        x.see(6); x.see(6); x.see(7);
        Due.is("30 under", x.under(0, 0, 0), 4096);
        Due.is("30 under", x.under(0, 0, 1), 4097);
        Due.is("30 under", x.under(0, 0, 2), 4099);
        Due.is("30 by another page", x.under(0, 1, 2), 3);
        Due.is("30 another one has none", x.under(0, 1, 1), 1);
        Due.is("30 none", x.under(0, 1, 0), 0);
        Due.is("30 not seen of him", x.under(0, 0, 3), NONE);
        Due.is("30 wrong", x.under(0, 0, 4), NONE);
        Due.is("30 wrong", x.under(0, 0, -1), NONE);
        Due.is("30 wrong", x.under(0, 2, 0), NONE);
        x.see(6); x.see(6);
        Due.is("30 more than writers", x.under(0, 0, 0), NONE);
    }

    private static void promise31() {
        BorrowedHands x = Due.town("writer 1 flip 0;writer 2 flip 1;writer 9 flip 15;book 0 16");
        Due.is("31 nothing seen", x.breaks(2, 0, 0), -3);
        x.see(32769);
        Due.is("31 none", x.breaks(2, 0, 0), 0);
        Due.is("31 none", x.breaks(2, 0, 1), NONE);
        x.see(32768 + 17); x.see(32770); x.see(32768 + 16); x.see(32768); x.see(32768 + 18);
        Due.is("31 breaks", x.breaks(2, 0, 0), 3);
        Due.is("31 the first", x.breaks(2, 0, 1), 2);
        Due.is("31 can't be", x.breaks(0, 0, 0), -2);
        Due.is("31 can't be", x.breaks(0, 0, 1), -2);
        Due.is("31 wrong", x.breaks(3, 0, 0), -3);
        Due.is("31 wrong", x.breaks(-1, 0, 0), -3);
        Due.is("31 wrong", x.breaks(2, 1, 0), -3);
        Due.is("31 wrong", x.breaks(2, 0, 2), -3);
        Due.is("31 wrong", x.breaks(2, 0, -1), -3);
        x.die(2);
        Due.is("31 as if not dead", x.breaks(2, 0, 0), 3);
        x.die(1);
        Due.is("31 others as they are", x.breaks(2, 0, 0), -2);
        BorrowedHands y = Due.town("writer 1 plain;writer 9 turn 1;book 0");
        y.die(0);
        y.see(65535);
        Due.is("31 none is no line", y.breaks(1, 0, 0), -2);
        y.forget();
        y.see(65533);
        Due.is("31 none is no line", y.breaks(1, 0, 0), -2);
    }

    private static void promise32() {
        BorrowedHands x = Due.town("writer 1 plain;writer 2 plain;writer 3 flip 0;book 4 6");
        Due.is("32 nothing seen", x.untangle(0, 1, 0, 0), 1);
        Due.is("32 nothing seen", x.untangle(0, 1, 0, 1), 0);
        for (int i = 0; i < 16; i++) {
            x.see(i % 2 == 0 ? 4 : 6);
        }
        Due.is("32 all", x.untangle(0, 1, 0, 0), 1);
        Due.is("32 half", x.untangle(0, 1, 0, 8), 12870);
        Due.is("32 all of one", x.untangle(0, 1, 0, 16), 1);
        Due.is("32 more", x.untangle(0, 1, 0, 17), 0);
        Due.is("32 fewer", x.untangle(0, 1, 0, -1), 0);
        Due.is("32 one alone", x.untangle(0, 2, 0, 16), 1);
        Due.is("32 one alone", x.untangle(2, 0, 0, 0), 1);
        Due.is("32 one alone", x.untangle(2, 0, 0, 1), 0);
        Due.is("32 like writers", x.untangle(1, 1, 0, 0), NONE);
        Due.is("32 wrong", x.untangle(0, 3, 0, 0), NONE);
        Due.is("32 wrong", x.untangle(-1, 0, 0, 0), NONE);
        Due.is("32 wrong", x.untangle(0, 1, 1, 0), NONE);
    }

    private static void promise33() {
        BorrowedHands x = Due.town("writer 1 plain;writer 2 set 0;writer 3 set 1;writer 4 plain;book 3 1 2 2 0");
        Due.is("33 two pages", x.tells(0, 3, 0), 1);
        Due.is("33 the least number", x.tells(0, 3, 1), 4);
        Due.is("33 three", x.tells(0, 7, 0), 1);
        Due.is("33 three", x.tells(0, 7, 1), 16);
        Due.is("33 by none", x.tells(0, 9, 0), -2);
        Due.is("33 by none", x.tells(0, 15, 1), -2);
        Due.is("33 one", x.tells(0, 4, 0), NONE);
        Due.is("33 nobody", x.tells(0, 0, 0), NONE);
        Due.is("33 wrong set", x.tells(0, 17, 0), NONE);
        Due.is("33 wrong set", x.tells(0, -1, 0), NONE);
        Due.is("33 wrong what", x.tells(0, 3, 2), NONE);
        Due.is("33 wrong what", x.tells(0, 3, -1), NONE);
        Due.is("33 wrong book", x.tells(1, 3, 0), NONE);
        x.die(0);
        Due.is("33 none is unlike each line", x.tells(0, 9, 1), 1);
        x.die(3);
        Due.is("33 none is like none", x.tells(0, 9, 0), -2);
        BorrowedHands y = Due.town("writer 1 plain;writer 2 set 0;writer 3 set 1;book 3 1 2");
        Due.is("33 two are needed", y.tells(0, 7, 0), 2);
        Due.is("33 two are needed", y.tells(0, 7, 1), 6);
    }

    private static void promise34() {
        BorrowedHands x = Due.town(FOUR);
        Due.is("34 how many", x.slips(0, 0, 0, 5, 0), 385);
        Due.is("34 writer", x.slips(0, 0, 0, 5, 1), 0);
        Due.is("34 plain", x.slips(0, 0, 0, 5, 2), 0);
        Due.is("34 plain has no signs", x.slips(0, 0, 0, 5, 3), NONE);
        Due.is("34 but his own", x.slips(0, 0, 0, 4, 0), 15);
        Due.is("34 kind", x.slips(0, 0, 0, 4, 2), 3);
        Due.is("34 sign", x.slips(0, 0, 0, 4, 3), 0);
        Due.is("34 no second", x.slips(0, 0, 0, 4, 4), NONE);
        Due.is("34 none", x.slips(0, 0, 0, 4096, 0), 0);
        for (int what = 1; what <= 4; what++) {
            Due.is("34 none " + what, x.slips(0, 0, 0, 4096, what), -2);
        }
        Due.is("34 swap", x.slips(0, 0, 0, 12, 0), 2);
        Due.is("34 swap kind", x.slips(0, 0, 0, 12, 2), 5);
        Due.is("34 swap first", x.slips(0, 0, 0, 12, 3), 0);
        Due.is("34 swap second", x.slips(0, 0, 0, 12, 4), 3);
        Due.is("34 turn", x.slips(0, 0, 0, 20, 2), 4);
        Due.is("34 turn", x.slips(0, 0, 0, 20, 3), 2);
        int[][] bad = {{4, 0, 0, 0, 0}, {0, 1, 0, 0, 0}, {0, 0, 2, 0, 0}, {0, 0, 0, 65536, 0}, {0, 0, 0, -1, 0},
            {0, 0, 0, 0, 5}, {0, 0, 0, 0, -1}};
        for (int[] b : bad) {
            Due.is("34 wrong", x.slips(b[0], b[1], b[2], b[3], b[4]), -3);
        }
        Due.is("34 of both hands", x.slips(1, 0, 0, 5, 0), 4);
        Due.is("34 of the lower hand", x.slips(1, 0, 0, 5, 1), 0);
        Due.is("34 of the lower hand", x.slips(1, 0, 0, 5, 3), 15);
        Due.is("34 of the upper hand", x.slips(1, 0, 0, 516, 0), 3);
        Due.is("34 of the upper hand", x.slips(1, 0, 0, 516, 1), 1);
        Due.is("34 of the upper hand", x.slips(1, 0, 0, 516, 3), 9);
        x.die(0);
        Due.is("34 dead", x.slips(2, 0, 0, 0, 0), -2);
        BorrowedHands y = Due.town("writer 1 flip 3;book 0");
        y.day(0);
        Due.is("34 in a mood", y.slips(0, 0, 0, 0, 0), 0);
        BorrowedHands z = Due.town("writer 5 plain;writer 9 plain under 0;writer 1 plain;book 0");
        Due.is("34 by writers", z.slips(1, 0, 0, 1, 1), 0);
        z.hire(0, 2);
        Due.is("34 by writers", z.slips(0, 0, 0, 1, 1), 0);
        BorrowedHands v = Due.town("writer 1 plain;writer 2 set 0 under 0;book 0");
        Due.is("34 what is set above can't come from below", v.slips(1, 0, 0, 2, 0), 2);
        Due.is("34 what is set above can't come from below", v.slips(1, 0, 0, 2, 1), 1);
    }

    private static void promise35() {
        BorrowedHands x = Due.town(FOUR);
        int[] due = {7, 8, 6, 6, 0};
        for (int k = 0; k < 5; k++) {
            Due.is("35 errors " + k, x.errors(0, 0, k), due[k]);
        }
        Due.is("35 wrong", x.errors(0, 0, 16), NONE);
        Due.is("35 wrong", x.errors(0, 0, -1), NONE);
        Due.is("35 wrong", x.errors(0, 2, 0), NONE);
        Due.is("35 wrong", x.errors(1, 0, 0), NONE);
        x.die(0);
        Due.is("35 one who has no line has no error", x.errors(0, 0, 0), 0);
    }

    private static void promise36() {
        BorrowedHands x = Due.town(EIGHT);
        Due.is("36 nested", x.nested(0, 0, 0), 1);
        Due.is("36 clashes", x.nested(0, 0, 1), 0);
        Due.is("36 unlike sets", x.nested(0, 0, 2), 8);
        Due.is("36 longest row", x.nested(0, 0, 3), 8);
        BorrowedHands y = Due.town("writer 1 set 0;writer 2 set 1 under 0;writer 3 set 1;writer 4 set 0 under 2;"
            + "writer 5 set 2 under 2;writer 6 set 3;book 0");
        Due.is("36 not nested", y.nested(0, 0, 0), 0);
        Due.is("36 clashes", y.nested(0, 0, 1), 1);
        Due.is("36 unlike sets", y.nested(0, 0, 2), 4);
        Due.is("36 longest row", y.nested(0, 0, 3), 2);
        BorrowedHands z = Due.town("writer 1 turn 1;book 1 0");
        Due.is("36 like sets count once", z.nested(0, 0, 2), 1);
        Due.is("36 like sets make no row", z.nested(0, 0, 3), 1);
        Due.is("36 no errors", z.nested(0, 1, 0), 1);
        Due.is("36 the empty one does not count", z.nested(0, 1, 2), 0);
        Due.is("36 the empty one does not count", z.nested(0, 1, 3), 0);
        Due.is("36 wrong", z.nested(0, 0, 4), NONE);
        Due.is("36 wrong", z.nested(0, 0, -1), NONE);
        Due.is("36 wrong", z.nested(0, 2, 0), NONE);
        Due.is("36 wrong", z.nested(1, 0, 0), NONE);
    }

    private static void promise37() {
        BorrowedHands x = Due.town("writer 1 plain;writer 2 plain under 0;writer 3 plain under 1;writer 4 plain under 1;"
            + "writer 5 plain");
        Due.is("37 shared", x.shared(2, 3), 1);
        Due.is("37 one of his own", x.shared(3, 1), 1);
        Due.is("37 himself", x.shared(0, 3), 0);
        Due.is("37 like", x.shared(3, 3), 3);
        Due.is("37 none", x.shared(4, 3), -2);
        Due.is("37 wrong", x.shared(5, 3), NONE);
        Due.is("37 wrong", x.shared(3, -1), NONE);
        x.die(1);
        Due.is("37 the dead stay hands", x.shared(2, 3), 1);
    }

    private static void promise38() {
        BorrowedHands x = Due.town(FOUR);
        Due.is("38 quarrel", x.quarrel(0, 3, 0, 0), 3);
        Due.is("38 quarrel", x.quarrel(1, 2, 0, 0), 0);
        Due.is("38 himself", x.quarrel(1, 1, 0, 0), 0);
        Due.is("38 wrong", x.quarrel(4, 0, 0, 0), NONE);
        Due.is("38 wrong", x.quarrel(0, -1, 0, 0), NONE);
        Due.is("38 wrong", x.quarrel(0, 1, 1, 0), NONE);
        Due.is("38 wrong", x.quarrel(0, 1, 0, 2), NONE);
        x.die(0);
        Due.is("38 one has none", x.quarrel(0, 3, 0, 0), -2);
        Due.is("38 one has none", x.quarrel(3, 0, 0, 0), -2);
    }

    private static void promise39() {
        BorrowedHands x = Due.town("writer 5 plain;writer 8 plain under 0;writer 9 plain under 0;writer 7 plain;"
            + "writer 0 plain");
        Due.is("39 alone", x.served(8, 3), 3);
        Due.is("39 more than he makes", x.served(8, 50), 7);
        Due.is("39 by the lowest", x.served(6, 4), 5);
        Due.is("39 less", x.served(6, 2), 4);
        Due.is("39 all", x.served(31, 99), 12);
        Due.is("39 those between make nothing for others", x.served(1, 99), 5);
        Due.is("39 who makes none", x.served(16, 99), 0);
        Due.is("39 nobody", x.served(0, 99), 0);
        Due.is("39 nothing", x.served(31, 0), 0);
        Due.is("39 wrong set", x.served(32, 1), NONE);
        Due.is("39 wrong set", x.served(-1, 1), NONE);
        Due.is("39 wrong n", x.served(1, 100), NONE);
        Due.is("39 wrong n", x.served(1, -1), NONE);
        x.store(1, 0);
        x.die(1);
        Due.is("39 the dead make none", x.served(2, 9), 0);
        Due.is("39 others do", x.served(6, 4), 4);
    }

    private static void promise40() {
        BorrowedHands x = Due.town("writer 1 flip 0;writer 2 flip 1;writer 9 flip 15;writer 3 flip 0;book 0 16");
        Due.is("40 nothing seen", x.between(2, 0, 0), NONE);
        x.see(32769); x.see(32768 + 17); x.see(32770); x.see(32768 + 16); x.see(32768);
        Due.is("40 first", x.between(2, 0, 0), 9);
        Due.is("40 second", x.between(2, 0, 1), 2);
        Due.is("40 nobody", x.between(2, 0, 2), 4096);
        Due.is("40 not so many", x.between(2, 0, 3), -2);
        Due.is("40 far", x.between(2, 0, MAX), -2);
        Due.is("40 can't be", x.between(0, 0, 0), -2);
        Due.is("40 wrong", x.between(2, 0, -1), NONE);
        Due.is("40 wrong", x.between(4, 0, 0), NONE);
        Due.is("40 wrong", x.between(2, 1, 0), NONE);
        x.die(0);
        Due.is("40 no line of the dead", x.between(2, 0, 0), 8);
    }

    private static void promise41() {
        BorrowedHands x = Due.town(FOUR + ";book 1");
        int[] due = {4, 2, 3, 9, 3, 0, 0, 0, 0, 0, 0, 0, 0, 0};
        for (int what = 0; what < 14; what++) {
            Due.is("41 count " + what, x.count(what), due[what]);
        }
        x.blame(0, 7); x.order(1, 5); x.day(0); x.die(3); x.see(1); x.see(2); x.keep(1);
        Due.write(x, "boo");
        int[] changed = {4, 2, 3, 9, 3, -7, 5, 1, 8, 2, 6, 3, 2, 1};
        for (int what = 0; what < 14; what++) {
            Due.is("41 changed " + what, x.count(what), changed[what]);
        }
        Due.is("41 wrong", x.count(14), NONE);
        Due.is("41 wrong", x.count(-1), NONE);
        Due.is("41 wrong", x.count(MIN), NONE);
        Due.is("41 wrong", x.count(MAX), NONE);
    }

    /* Twelve writers, four books of eight pages, sixteen seen: the ends of all rows. */
    private static void fullTown() {
        StringBuilder text = new StringBuilder(many("writer 0 plain", 11) + ";writer 9 flip 15");
        for (int b = 0; b < 4; b++) {
            text.append(";book");
            for (int p = 0; p < 8; p++) {
                text.append(' ').append(100 * b + p);
            }
        }
        BorrowedHands x = Due.town(text.toString());
        Due.is("full pages", x.count(2), 32);
        Due.is("full fits", x.fits(307, 10), 32 * 10 + 31);
        Due.is("full fits", x.fits(32768 + 307, 0), 32 * 11 + 31);
        Due.is("full likeliest", x.likeliest(32768 + 307, 0), 32 * 11 + 31);
        Due.is("full matches", x.matches(11, 32768 + 307), 1L << 31);
        Due.is("full tells", x.tells(3, 3 << 10, 1), 1);
        Due.is("full tells", x.tells(3, 3 << 9, 0), -2);
        Due.is("full hire", x.hire(11, 10), 2);
        for (int i = 0; i < 16; i++) {
            x.see(32768 + 300 + i % 8);
        }
        Due.is("full breaks", x.breaks(11, 3, 0), 0);
        Due.is("full between", x.between(11, 3, 0), 4096 + 2047);
        Due.is("full untangle", x.untangle(11, 10, 3, 16), 1);
        Due.is("full store", x.store(11, 3), 8);
        Due.is("full store", x.store(0, 1), 8);
        x.teach(0, 1, 0, 0);
        Due.is("full store", x.store(0, 0), 8);
        x.die(0);
        x.die(11);
        Due.is("full stock", x.line(11, 3, 7), 32768 + 307);
        Due.is("full stock of one book", x.line(0, 0, 7), 6);
        Due.is("full stock of the next", x.line(0, 1, 0), 100);
        Due.is("full set", x.served(4095, 99), 0);
        Due.is("full errors", x.errors(3, 7, 15), 2048);
    }

    private static void fullTape() {
        String blanks = " ".repeat(400);
        String[] texts = {"", "book 7", "book", "writer 5 plain", "writer 5 plain under", "book 1;"};
        int[] due = {0, 0, -2 - 3201, 1, -2 - 3201, -2 - 3201};
        for (int i = 0; i < texts.length; i++) {
            BorrowedHands x = new BorrowedHands();
            Due.is("full tape " + texts[i], Due.tell(x, (texts[i] + blanks).substring(0, 400)), due[i]);
        }
        String[] ends = {"book 12", "writer 5 plain", "writer 5 flip", "writer 5 set 1"};
        int[] endsDue = {0, 1, -2 - 3201, 1};
        for (int i = 0; i < ends.length; i++) {
            BorrowedHands x = new BorrowedHands();
            Due.is("full tape, end " + ends[i], Due.tell(x, blanks.substring(ends[i].length()) + ends[i]), endsDue[i]);
        }
    }

    /* What is refused is no act: it can't be undone and leaves the last acts as they are. */
    private static void refusals() {
        BorrowedHands x = Due.town(FOUR);
        x.blame(0, 1);
        x.hire(1, 0); x.hire(0, 1); x.hire(9, 9); x.sack(0); x.teach(0, 1, 0, 0); x.praise(0, 0);
        x.blame(0, 0); x.order(0, 0); x.store(0, 9); x.die(9); x.see(-1); x.forget(); x.keep(0); x.back(1);
        Due.is("one act", x.count(10), 1);
        Due.is("undone", x.undo(), 0);
        Due.is("fame", x.writer(0, 7), 0);
    }
}
