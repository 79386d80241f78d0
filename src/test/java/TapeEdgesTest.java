/** The edges of promises 1 to 4: a new object, the tape, the text and its faults. */
public final class TapeEdgesTest {
    private static final int NONE = Edge.NONE;
    private static final int MIN = Edge.MIN;
    private static final String[] ONE_SIGN = {"flip", "set", "clear"};
    private static final String[] TWO_SIGNS = {"swap", "copy"};

    private TapeEdgesTest() {
    }

    public static void main(String[] args) {
        Edge.runAll(TapeEdgesTest.class, 1, 4);
    }

    private static int told(String text) {
        return Due.tell(new BorrowedHands(), text);
    }

    private static void stands(String text, int writers) {
        Edge.is("\"" + text + "\"", told(text), writers);
    }

    private static void fault(String text, int place, int why) {
        Edge.is("\"" + text + "\"", told(text), -2 - (8 * place + why));
    }

    /* The text is wrong at its end, at the number or word behind the part that is right. */
    private static void faultBehind(String right, String wrong, int why) {
        fault(right + wrong, right.length(), why);
    }

    private static void promise1NothingCounts() {
        for (int what = 0; what <= 13; what++) {
            Edge.is("count " + what, new BorrowedHands().count(what), 0);
        }
    }

    private static void promise1NobodyIsThere() {
        BorrowedHands x = new BorrowedHands();
        Edge.is("writer", x.writer(0, 0), MIN);
        Edge.is("page", x.page(0, 0), NONE);
        Edge.is("fits", x.fits(0, NONE), 0);
    }

    private static void promise1NothingCanBeUndoneOrComesBack() {
        BorrowedHands x = new BorrowedHands();
        Edge.is("undo", x.undo(), NONE);
        Edge.is("back 0", x.back(0), -2);
        Edge.is("back 1", x.back(1), -2);
        Edge.is("forget", x.forget(), NONE);
        Edge.is("end 1", x.end(1), NONE);
    }

    private static void promise2EachFeedIsTwentyBytes() {
        BorrowedHands x = new BorrowedHands();
        for (int i = 1; i <= 20; i++) {
            Edge.is("feed", x.feed(-1, 0, 1, MIN, Edge.MAX), 20 * i);
            Edge.is("bytes", x.count(11), 20 * i);
        }
    }

    private static void promise2FillsTheTapeToItsLastByte() {
        BorrowedHands x = new BorrowedHands();
        Due.write(x, " ".repeat(380));
        Edge.is("feed behind 380", x.feed(0x20202020, 0x20202020, 0x20202020, 0x20202020, 0x626f6f6b), 400);
        Edge.is("all 400 are read", x.tell(), -2 - (8 * 400 + 1));
    }

    private static void promise2NoneComesIfItWouldBeMoreThan400() {
        for (int bytes = 381; bytes <= 400; bytes++) {
            String text = (Towns.FIVE + " ".repeat(400)).substring(0, bytes);
            Edge.Story story = Towns.FEW.and(x -> {
                Due.write(x, text);
                return 0;
            });
            Edge.refused("feed behind " + bytes, story, x -> x.feed(-1, -1, -1, -1, -1), NONE);
        }
    }

    private static void promise2HighestByteFirst() {
        for (int place = 0; place < 20; place++) {
            int[] n = {0x20202020, 0x20202020, 0x20202020, 0x20202020, 0x20202020};
            int shift = 24 - 8 * (place % 4);
            n[place / 4] = n[place / 4] & ~(255 << shift) | 233 << shift;
            BorrowedHands x = new BorrowedHands();
            x.feed(n[0], n[1], n[2], n[3], n[4]);
            Edge.is("a wrong byte at " + place, x.tell(), -2 - (8 * place + 1));
        }
    }

    private static void promise2ComesBehindTheTape() {
        BorrowedHands x = new BorrowedHands();
        Due.write(x, "book");
        Due.write(x, " 65");
        Due.write(x, "535;");
        Due.write(x, "book 2");
        x.tell();
        Edge.is("page", x.page(0, 0), 65535);
        Edge.is("page", x.page(1, 0), 2);
    }

    private static void promise3NothingOfNothing() {
        Edge.is("end 0", new BorrowedHands().end(0), 0);
    }

    private static void promise3NotSoMany() {
        Edge.refusedEach("end, 14 bytes", Towns.ALL, Edge.above(14), n -> x -> x.end(n), NONE);
        Edge.refusedEach("end, no bytes", Towns.NOTHING, Edge.above(0), n -> x -> x.end(n), NONE);
        Edge.Story full = Towns.FEW.and(x -> {
            Due.write(x, " ".repeat(394) + "book 7");
            return 0;
        });
        Edge.refusedEach("end, 400 bytes", full, new int[] {401, 420, Edge.MAX}, n -> x -> x.end(n), NONE);
    }

    private static void promise3Below0() {
        Edge.refusedEach("end", Towns.ALL, new int[] {-1, -2, -14, -256, MIN + 1, MIN}, n -> x -> x.end(n), NONE);
    }

    private static void promise3AllItsBytes() {
        Edge.is("end 14", Edge.made(Towns.ALL).end(14), 14);
        Edge.alike("end of all its bytes", Towns.ALL, Towns.ALL.and(x -> x.end(14)));
        BorrowedHands x = new BorrowedHands();
        Due.write(x, " ".repeat(400));
        Edge.is("end 400", x.end(400), 400);
        Edge.is("bytes", x.count(11), 400);
    }

    private static void promise3FirstBytesAlone() {
        BorrowedHands x = new BorrowedHands();
        Due.write(x, "book 123456");
        Edge.is("end", x.end(8), 8);
        Edge.is("what is cut is gone", x.end(9), NONE);
        Edge.is("tell", x.tell(), 0);
        Edge.is("page", x.page(0, 0), 123);
        Due.write(x, "book 123456");
        Edge.is("end 0", x.end(0), 0);
        Edge.is("nothing is left", x.tell(), 0);
        Edge.is("no book", x.count(1), 0);
    }

    private static void promise3FeedComesBehindTheCut() {
        BorrowedHands x = new BorrowedHands();
        Due.write(x, "book 7 x");
        x.end(6);
        Due.write(x, "1;writer 5 plain");
        Edge.is("tell", x.tell(), 1);
        Edge.is("page", x.page(0, 0), 71);
    }

    private static void promise3CutBytesAreNotRead() {
        String[] texts = {"writer 5 plain", "writer 5 flip 1", "book 12", "book 1 2", "writer 5 plain ", "", " "};
        String[] behind = {"under 0", "s", "0", " 7", ";", ";x", "x"};
        for (String text : texts) {
            for (String cut : behind) {
                BorrowedHands x = new BorrowedHands();
                Due.write(x, text + cut);
                x.end(text.length());
                Edge.is("\"" + text + "\" of \"" + text + cut + "\"", x.tell(), told(text));
                Edge.is("page", x.page(0, 0), text.equals("book 12") ? 12 : text.equals("book 1 2") ? 1 : NONE);
            }
        }
    }

    private static void promise4EmptyText() {
        BorrowedHands x = Edge.made(Towns.RICH);
        Edge.is("tell", x.tell(), 0);
        for (int what : new int[] {0, 1, 2, 3, 4, 5, 6, 7, 8, 9, 10, 11, 13}) {
            Edge.is("count " + what, x.count(what), 0);
        }
        Edge.is("writer", x.writer(0, 0), MIN);
        Edge.is("page", x.page(0, 0), NONE);
    }

    private static void promise4BlanksAlone() {
        stands(" ", 0);
        stands(" ".repeat(400), 0);
    }

    private static void promise4TextOf400Bytes() {
        String blanks = " ".repeat(400);
        stands((Towns.FULL + blanks).substring(0, 400), 12);
        stands((blanks + Towns.FULL).substring(Towns.FULL.length()), 12);
        for (String part : new String[] {"writer 5 plain", "writer 5 copy 0 15", "writer 5 plain;writer 6 plain under 0"}) {
            stands((blanks + part).substring(part.length()), part.contains(";") ? 2 : 1);
        }
        BorrowedHands x = new BorrowedHands();
        Due.tell(x, (blanks + "book 65535").substring(10));
        Edge.is("the last byte counts", x.page(0, 0), 65535);
    }

    private static void promise4TapeIsEmptyThen() {
        BorrowedHands x = new BorrowedHands();
        Edge.is("tell", Due.tell(x, "book 7"), 0);
        Edge.is("bytes", x.count(11), 0);
        Edge.is("fault", Due.tell(x, "books 7"), -2 - 1);
        Edge.is("bytes behind a fault", x.count(11), 0);
        Edge.is("what was there is not read again", x.tell(), 0);
        Edge.is("no book", x.count(1), 0);
    }

    private static BorrowedHands toldAnew() {
        BorrowedHands x = Edge.made(Towns.RICH);
        Edge.is("tell", Due.tell(x, Towns.FIVE), 5);
        return x;
    }

    private static void noneHas(BorrowedHands x, int what) {
        for (int w = 0; w < 5; w++) {
            Edge.is("writer " + w + " " + what, x.writer(w, what), 0);
        }
    }

    private static void promise4NoFame() {
        BorrowedHands x = toldAnew();
        noneHas(x, 7);
        Edge.is("of all", x.count(5), 0);
    }

    private static void promise4NoCoins() {
        BorrowedHands x = toldAnew();
        noneHas(x, 8);
        Edge.is("of all", x.count(6), 0);
    }

    private static void promise4NoMoods() {
        BorrowedHands x = toldAnew();
        noneHas(x, 9);
        Edge.is("all", x.count(7), 0);
        Edge.is("he adds his habit", x.line(0, 0, 0), 4);
        Edge.is("none comes late", x.day(0) & 22, 0);
    }

    private static void promise4NoStock() {
        BorrowedHands x = toldAnew();
        noneHas(x, 11);
        x.die(3);
        Edge.is("none stands there", x.line(3, 0, 0), -2);
        x.die(1);
        Edge.is("none stands there", x.line(1, 1, 0), -2);
    }

    private static void promise4NobodyDead() {
        BorrowedHands x = toldAnew();
        noneHas(x, 10);
        Edge.is("all", x.count(8), 0);
        Edge.is("he can be taught", x.teach(3, 0, 0, 0), 6);
    }

    private static void promise4NothingSeen() {
        BorrowedHands x = toldAnew();
        Edge.is("seen", x.count(9), 0);
        Edge.is("forget", x.forget(), NONE);
        Edge.is("trees", x.trees(0, 0), NONE);
        Edge.is("see", x.see(4), 1);
    }

    private static void promise4Days0() {
        BorrowedHands x = toldAnew();
        Edge.is("days", x.count(13), 0);
        x.day(3);
        Edge.is("days", x.count(13), 1);
    }

    private static void promise4NothingCanBeUndone() {
        BorrowedHands x = toldAnew();
        Edge.is("acts", x.count(10), 0);
        Edge.is("undo", x.undo(), NONE);
        x.blame(0, 1);
        Edge.is("the tell stays", x.undo(), 0);
        Edge.is("none more", x.undo(), NONE);
    }

    private static void promise4ShelvesStay() {
        Edge.is("shelves", toldAnew().count(12), 3);
        for (int shelf = 0; shelf < 2; shelf++) {
            int which = shelf;
            Edge.alike("shelf " + shelf, Towns.RICH.and(x -> x.back(which)), x -> {
                Towns.RICH.goesOn(x);
                Due.tell(x, "writer 1 plain");
                x.back(which);
            });
        }
    }

    private static void promise4InPlaceOfTheOneThereWas() {
        BorrowedHands x = Edge.made(Towns.RICH);
        Edge.is("tell", Due.tell(x, "writer 99 set 15;writer 3 plain;book 1"), 2);
        Edge.is("writer 0", x.writer(0, 0), 99);
        Edge.is("nobody under 1", x.writer(1, 4), NONE);
        Edge.is("no writer 2", x.writer(2, 0), MIN);
        Edge.is("no page 1", x.page(0, 1), NONE);
        Edge.is("no book 1", x.page(1, 0), NONE);
        Edge.alike("as if told to a new object", Towns.of(Towns.FIVE), y -> {
            Due.tell(y, Towns.FULL);
            Due.tell(y, Towns.FIVE);
        });
    }

    private static void promise4OfAFaultNothingHappensButForTheTape() {
        String[] wrong = {"x", "book", Towns.FIVE + ";", Towns.FIVE + ";book 65536", "writer 1 plain;writer 1 plain under 0",
            Towns.TWELVE + ";writer 1 plain", Edge.many("book 1", 5), "book 1 2 3 4 5 6 7 8 9", "writer 1 swap 2 2"};
        for (String text : wrong) {
            Edge.is("a fault of \"" + text + "\": 1", told(text) < -2 ? 1 : 0, 1);
            Edge.refused("tell \"" + text + "\"", Towns.RICH, x -> Due.tell(x, text), told(text));
            Edge.refused("tell \"" + text + "\"", Towns.NOTHING, x -> Due.tell(x, text), told(text));
        }
    }

    private static void promise4TwelveWriters() {
        stands(Towns.TWELVE, 12);
        stands(Towns.TWELVE + ";book 1", 12);
    }

    private static void promise4WordOfA13thWriter() {
        faultBehind(Towns.TWELVE + ";", "writer 1 plain", 3);
        faultBehind(Towns.TWELVE + ";book 1;", "writer", 3);
        faultBehind(Towns.TWELVE + ";   ", "writer 100 x", 3);
    }

    private static void promise4FourBooks() {
        stands(Edge.many("book 1", 4), 0);
        BorrowedHands x = Edge.made(Towns.of(Towns.FULL));
        Edge.is("pages", x.count(2), 32);
        Edge.is("the last", x.page(3, 7), 65535);
    }

    private static void promise4WordOfA5thBook() {
        faultBehind(Edge.many("book 1", 4) + ";", "book 1", 3);
        faultBehind(Edge.many("book 1", 4) + ";writer 1 plain; ", "book", 3);
        faultBehind(Edge.many("book 1", 4) + ";", "book 65536", 3);
    }

    private static void promise4OnePage() {
        BorrowedHands x = Edge.made(Towns.of("book 7"));
        Edge.is("page 0", x.page(0, 0), 7);
        Edge.is("page 1", x.page(0, 1), NONE);
        faultBehind("book", "", 1);
        faultBehind("book", ";book 1", 1);
    }

    private static void promise4EightPages() {
        BorrowedHands x = Edge.made(Towns.of("book 1 2 3 4 5 6 7 8"));
        Edge.is("pages", x.count(2), 8);
        Edge.is("page 7", x.page(0, 7), 8);
    }

    private static void promise4NinthPage() {
        faultBehind("book 1 2 3 4 5 6 7 8 ", "9", 3);
        faultBehind("book 1 2 3 4 5 6 7 8   ", "0;x", 3);
        faultBehind("book 1;book 1 2 3 4 5 6 7 8 ", "9 10", 3);
    }

    private static void promise4OfOnePlaceTheLeast() {
        faultBehind("book 1 2 3 4 5 6 7 8 ", "65536", 2);
        faultBehind(Towns.TWELVE + ";", "writers 1 plain", 1);
        faultBehind(Edge.many("book 1", 4) + ";", "bookwriter", 1);
    }

    private static void promise4PurseOf0To99() {
        BorrowedHands x = Edge.made(Towns.of("writer 0 plain;writer 99 plain"));
        Edge.is("purse", x.writer(0, 0), 0);
        Edge.is("purse", x.writer(1, 0), 99);
        faultBehind("writer ", "100 plain", 2);
        faultBehind("writer ", "1000 plain", 2);
        faultBehind("writer ", "-1 plain", 1);
    }

    private static void promise4PageOf0To65535() {
        BorrowedHands x = Edge.made(Towns.of("book 0 65535"));
        Edge.is("page", x.page(0, 0), 0);
        Edge.is("page", x.page(0, 1), 65535);
        faultBehind("book ", "65536", 2);
        faultBehind("book 1 ", "65536 2", 2);
        faultBehind("book ", "-1", 1);
    }

    private static void promise4SignOf0To15() {
        for (String habit : ONE_SIGN) {
            String right = "writer 5 " + habit + " ";
            stands(right + "0", 1);
            stands(right + "15", 1);
            faultBehind(right, "16", 2);
            faultBehind(right, "99", 2);
            faultBehind(right, "", 1);
        }
        for (String habit : TWO_SIGNS) {
            String right = "writer 5 " + habit + " ";
            stands(right + "0 15", 1);
            stands(right + "15 0", 1);
            faultBehind(right, "16 0", 2);
            faultBehind(right + "0 ", "16", 2);
            faultBehind(right, "", 1);
            faultBehind(right + "0 ", "", 1);
        }
    }

    private static void promise4TurnOf1To15() {
        stands("writer 5 turn 1", 1);
        stands("writer 5 turn 15", 1);
        faultBehind("writer 5 turn ", "0", 2);
        faultBehind("writer 5 turn ", "00", 2);
        faultBehind("writer 5 turn ", "16", 2);
        faultBehind("writer 5 turn ", "", 1);
    }

    private static void promise4SignsUnlike() {
        for (String habit : TWO_SIGNS) {
            faultBehind("writer 5 " + habit + " 0 ", "0", 2);
            faultBehind("writer 5 " + habit + " 15 ", "15", 2);
            faultBehind("writer 5 " + habit + " 7 ", "007", 2);
            stands("writer 5 " + habit + " 7 8", 1);
        }
    }

    private static void promise4PlainHasNoSigns() {
        stands("writer 5 plain", 1);
        faultBehind("writer 5 plain ", "0", 1);
        faultBehind("writer 5 flip 1 ", "2", 1);
        faultBehind("writer 5 swap 1 2 ", "3", 1);
    }

    private static void promise4WriterNotTold() {
        faultBehind("writer 5 plain under ", "0", 2);
        faultBehind("writer 5 plain;writer 6 plain under ", "1", 2);
        faultBehind("writer 5 plain;writer 6 plain under ", "2;writer 1 plain", 2);
        faultBehind(Towns.TWELVE.replace("writer 11", "writer 50") + " under ", "11", 2);
        faultBehind("writer 5 plain;writer 6 plain under ", "4294967296", 2);
        stands("writer 5 plain;writer 6 plain under 0", 2);
        stands(Towns.TWELVE + " under 10", 12);
        faultBehind("writer 5 plain;writer 6 plain under ", "", 1);
        faultBehind("writer 5 plain;writer 6 plain under ", ";", 1);
    }

    private static void promise4PurseNotLess() {
        stands("writer 98 plain;writer 99 plain under 0", 2);
        stands("writer 0 plain;writer 1 plain under 0", 2);
        faultBehind("writer 99 plain;writer 99 plain under ", "0", 4);
        faultBehind("writer 0 plain;writer 0 plain under ", "0", 4);
        faultBehind("writer 99 plain;writer 0 plain under ", "00;x", 4);
    }

    private static void promise4FirstPlaceAlongTheText() {
        String[] later = {"", " x", ";", ";writer 100 plain", ";book 65536", ";book 1 2 3 4 5 6 7 8 9"};
        for (String more : later) {
            faultBehind("writer ", "100 plain" + more, 2);
            faultBehind("writer ", "100 odd" + more, 2);
            faultBehind("writer ", "100 flip 16" + more, 2);
            faultBehind("writer ", "100 plain under 0" + more, 2);
            faultBehind("writer 5 swap ", "16 16" + more, 2);
            faultBehind("writer 5 ", "odd 16 under 9" + more, 1);
            faultBehind("writer 5 ", "odd" + more, 1);
            faultBehind("writer 5 turn ", "0" + more, 2);
            faultBehind("writer 5 plain under ", "3" + more, 2);
            faultBehind("writer 5 plain;writer 4 plain under ", "0" + more, 4);
            faultBehind("book ", "65536" + more, 2);
            faultBehind("book 1 2 3 4 5 6 7 8 ", "8" + more, 3);
            faultBehind(Edge.many("book 1", 4) + ";", "book 1" + more, 3);
        }
    }

    private static void promise4FirstByteIsPlace0() {
        fault("x", 0, 1);
        fault("7", 0, 1);
        fault(";", 0, 1);
        fault("plain", 0, 1);
        fault("under 0", 0, 1);
        fault("" + (char) 255, 0, 1);
    }

    private static void promise4TextEnds() {
        String[] tooShort = {"writer", "writer 5", "writer 5 flip", "writer 5 swap", "writer 5 swap 1",
            "writer 5 plain;", "writer 5 plain;writer 6 plain under", "book", "book 1;"};
        for (String text : tooShort) {
            faultBehind(text, "", 1);
            faultBehind(text + "   ", "", 1);
            fault((text + " ".repeat(400)).substring(0, 400), 400, 1);
            fault((" ".repeat(400) + text).substring(text.length()), 400, 1);
        }
    }

    private static void promise4WordThatCannotStand() {
        fault("writers 5 plain", 0, 1);
        fault("write 5 plain", 0, 1);
        fault("boo 5", 0, 1);
        fault("vriter 5 plain", 0, 1);
        fault("writes 5 plain", 0, 1);
        fault("look 5", 0, 1);
        faultBehind("writer 5 ", "clip 3", 1);
        faultBehind("writer 5 ", "get 3", 1);
        faultBehind("writer 5 ", "burn 3", 1);
        faultBehind("writer 5 ", "swat 3 4", 1);
        faultBehind("writer 5 plain;writer 6 plain ", "ander 0", 1);
        faultBehind("writer 5 ", "plains", 1);
        faultBehind("writer 5 ", "plai", 1);
        faultBehind("writer 5 ", "under", 1);
        faultBehind("writer 5 plain ", "unde 0", 1);
        faultBehind("writer 5 plain ", "book 1", 1);
        faultBehind("book 1 ", "writer", 1);
        faultBehind("writer ", "plain", 1);
        faultBehind("writer 5 flip ", "under", 1);
    }

    private static void promise4WordsGoOnAsFarAsLettersDo() {
        fault("writerplain", 0, 1);
        fault("booka 1", 0, 1);
        fault("bookz 1", 0, 1);
        faultBehind("writer 5 ", "plainunder 0", 1);
        faultBehind("book", "`1", 1);
        faultBehind("book", "{1", 1);
        faultBehind("book", "A1", 1);
        faultBehind("book", "Z1", 1);
    }

    private static void promise4NumbersGoOnAsFarAsDigitsDo() {
        BorrowedHands x = Edge.made(Towns.of("book 0123 4567 89"));
        Edge.is("pages", x.count(2), 3);
        Edge.is("page", x.page(0, 1), 4567);
        faultBehind("book 1", "/2", 1);
        faultBehind("book 1", ":2", 1);
        faultBehind("writer 5 flip ", "160", 2);
    }

    private static void promise4NumbersTooLargeForAnInt() {
        String[] huge = {"2147483648", "4294967296", "4294967301", "18446744073709551616", "18446744073709551621",
            "1" + "0".repeat(300)};
        for (String number : huge) {
            faultBehind("writer ", number + " plain", 2);
            faultBehind("writer 5 flip ", number, 2);
            faultBehind("writer 5 copy 3 ", number, 2);
            faultBehind("book ", number, 2);
            faultBehind("writer 5 plain;writer 6 plain under ", number, 2);
        }
    }

    private static void promise4ZerosAhead() {
        BorrowedHands x = Edge.made(Towns.of("writer 005 flip 0015;book " + "0".repeat(300) + "7"));
        Edge.is("purse", x.writer(0, 0), 5);
        Edge.is("sign", x.writer(0, 2), 15);
        Edge.is("page", x.page(0, 0), 7);
    }

    private static void promise4BlanksAsOneLikes() {
        stands("  writer   7  copy  15   0  ;  book   0   65535  ;writer 9 swap 0   1   under   0  ", 2);
        stands("writer7copy15 0;book0 65535;writer9swap0 1under0", 2);
    }

    private static void promise4OnlyByte32IsABlank() {
        for (int sign : new int[] {0, 9, 10, 13, 31, 33, 160, 32 + 128, 255}) {
            faultBehind("writer 5 plain", (char) sign + "", 1);
            faultBehind("", (char) sign + "book 1", 1);
            faultBehind("book", (char) sign + "1", 1);
        }
    }

    private static void promise4PartsHaveOneSemicolonBetween() {
        fault(";book 1", 0, 1);
        faultBehind("book 1;", "", 1);
        faultBehind("book 1;", ";book 2", 1);
        faultBehind("book 1; ", ";", 1);
        faultBehind("book 1", ",2", 1);
        stands("book 1;book 2", 0);
    }
}
