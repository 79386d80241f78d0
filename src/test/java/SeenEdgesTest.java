/** The edges of promises 29 to 41: what is seen, what tells writers apart, errors, and what is counted. */
public final class SeenEdgesTest {
    private static final int NONE = Edge.NONE;
    private static final int MIN = Edge.MIN;
    private static final int MAX = Edge.MAX;
    private static final int NOBODY = 1 << 12;
    private static final Edge.Story FULL = Towns.of(Towns.FULL);
    /* All lines of its pages are alike, so that whoever is poorer can be under whom one likes. */
    private static final Edge.Story TWELVE = Towns.of(Towns.TWELVE + ";book 7");
    /* Lines of page 0: 1, 2 and, of writer 2, 0: he can have one of them under him, or nobody. */
    private static final Edge.Story THREE = Towns.of("writer 1 flip 0;writer 1 flip 1;writer 5 plain;book 0");
    /* Of the pages 1, 0, 1 writer 0 makes 0, 1, 0 and writer 1 makes 1, 1, 1: writer 2 is over one of them. */
    private static final Edge.Story FLIP_AND_SET = Towns.of("writer 1 flip 0;writer 2 set 0;writer 9 plain;book 1 0 1");
    /* 0 is dead without stock, 1 over him; 2 is dead with stock, 3 over him; 4 is alone. */
    private static final Edge.Story DEAD = x -> {
        Due.tell(x, "writer 1 flip 0;writer 2 plain under 0;writer 1 flip 1;writer 2 flip 2 under 2;writer 9 plain;book 0 8");
        x.store(2, 0);
        x.die(0);
        x.die(2);
    };

    private SeenEdgesTest() {
    }

    public static void main(String[] args) {
        Edge.runAll(SeenEdgesTest.class, 29, 41);
    }

    private static Edge.Story seeing(Edge.Story story, int... lines) {
        return x -> {
            story.goesOn(x);
            for (int line : lines) {
                x.see(line);
            }
        };
    }

    private static int[] times(int many, int... lines) {
        int[] all = new int[many];
        for (int i = 0; i < many; i++) {
            all[i] = lines[i % lines.length];
        }
        return all;
    }

    private static void promise29WithoutThatPage() {
        Edge.refusedEach("book", Towns.ALL, Edge.outside(0, 1), n -> x -> x.trees(n, 0), NONE);
        Edge.refusedEach("page", Towns.ALL, Edge.outside(0, 2), n -> x -> x.trees(0, n), NONE);
        Edge.refusedEach("page of book 1", Towns.ALL, Edge.outside(0, 0), n -> x -> x.trees(1, n), NONE);
        Edge.refusedEach("book of 4", seeing(FULL, 1), Edge.outside(0, 3), n -> x -> x.trees(n, 0), NONE);
        Edge.refusedEach("page of 8", seeing(FULL, 1), Edge.outside(0, 7), n -> x -> x.trees(0, n), NONE);
        Edge.refused("no town", seeing(Towns.NOTHING, 1), x -> x.trees(0, 0), NONE);
    }

    private static void promise29NothingIsSeen() {
        Edge.refused("trees", TWELVE, x -> x.trees(0, 0), NONE);
        Edge.refused("no longer", seeing(TWELVE, 7).and(BorrowedHands::forget), x -> x.trees(0, 0), NONE);
        Edge.refused("no writers", Towns.of("book 1"), x -> x.trees(0, 0), NONE);
        Edge.is("one is", Edge.made(seeing(TWELVE, 7)).trees(0, 0), 1);
    }

    private static void promise29MoreThanThereAreWriters() {
        Edge.is("as many", Edge.made(seeing(TWELVE, times(12, 7))).trees(0, 0), 479001600);
        Edge.is("as many", Edge.made(seeing(THREE, 1, 2, 0)).trees(0, 0), 1);
        Edge.refused("one more", seeing(TWELVE, times(13, 7)), x -> x.trees(0, 0), NONE);
        Edge.refused("sixteen", seeing(TWELVE, times(16, 7)), x -> x.trees(0, 0), NONE);
        Edge.refused("one more", seeing(THREE, 1, 2, 0, 0), x -> x.trees(0, 0), NONE);
        Edge.refused("no writers", seeing(Towns.of("book 1"), 1), x -> x.trees(0, 0), NONE);
    }

    private static void promise29NoTrees() {
        Edge.is("he can have nobody", Edge.made(seeing(TWELVE, 8)).trees(0, 0), 0);
        Edge.is("the last can have nobody", Edge.made(seeing(TWELVE, 7, 7, 8)).trees(0, 0), 0);
        Edge.is("one who needs another", Edge.made(seeing(TWELVE, 8, 8)).trees(0, 0), 0);
    }

    private static void promise29ThePurseIsLess() {
        Edge.Story like = Towns.of("writer 5 plain;writer 5 plain;writer 4 plain;book 7");
        Edge.is("like purses", Edge.made(seeing(like, 7, 7)).trees(0, 0), 1);
        Edge.is("one less", Edge.made(seeing(like, 7, 7, 7)).trees(0, 0), 4);
    }

    private static void promise29AsIfInNoMoodNotDead() {
        Edge.Story story = Towns.of("writer 1 flip 0;writer 2 flip 1 under 0;book 0").and(x -> x.day(0)).and(x -> x.day(1))
            .and(x -> x.die(0)).and(x -> x.die(1));
        Edge.is("mood", Edge.made(story).count(7) & 2, 2);
        Edge.is("trees", Edge.made(seeing(story, 1, 3)).trees(0, 0), 1);
        Edge.is("the habit is added", Edge.made(seeing(story, 0, 0)).trees(0, 0), 0);
    }

    private static void promise30WithoutThatPage() {
        Edge.refusedEach("book", Towns.ALL, Edge.outside(0, 1), n -> x -> x.under(n, 0, 0), NONE);
        Edge.refusedEach("page", Towns.ALL, Edge.outside(0, 2), n -> x -> x.under(0, n, 0), NONE);
        Edge.refusedEach("book of 4", seeing(FULL, 1), Edge.outside(0, 3), n -> x -> x.under(n, 0, 0), NONE);
        Edge.refusedEach("page of 8", seeing(FULL, 1), Edge.outside(0, 7), n -> x -> x.under(0, n, 0), NONE);
        Edge.refused("no town", seeing(Towns.NOTHING, 1), x -> x.under(0, 0, 0), NONE);
    }

    private static void promise30WithoutThatWriter() {
        Edge.refusedEach("writer", Towns.ALL, Edge.outside(0, 4), n -> x -> x.under(0, 0, n), NONE);
        Edge.refusedEach("of 12", seeing(TWELVE, times(12, 7)), Edge.outside(0, 11), n -> x -> x.under(0, 0, n), NONE);
    }

    private static void promise30NothingIsSeenOfHim() {
        for (int seen = 1; seen <= 11; seen++) {
            int many = seen;
            Edge.refused("of " + many, seeing(TWELVE, times(many, 7)), x -> x.under(0, 0, many), NONE);
            Edge.is("of the one ahead", Edge.made(seeing(TWELVE, times(many, 7))).under(0, 0, many - 1),
                NOBODY + (1 << many - 1) - 1);
        }
    }

    private static void promise30AsTrees() {
        Edge.refused("nothing is seen", TWELVE, x -> x.under(0, 0, 0), NONE);
        Edge.refused("more than writers", seeing(TWELVE, times(13, 7)), x -> x.under(0, 0, 0), NONE);
        Edge.refused("more than writers", seeing(THREE, 1, 2, 0, 0), x -> x.under(0, 0, 0), NONE);
        Edge.is("as many", Edge.made(seeing(TWELVE, times(12, 7))).under(0, 0, 11), NOBODY + 2047);
    }

    private static void promise30AlsoIfAnotherOneHasNone() {
        BorrowedHands x = Edge.made(seeing(TWELVE, 8, 8, 7));
        Edge.is("he has none", x.under(0, 0, 0), 0);
        Edge.is("he has", x.under(0, 0, 1), 1);
        Edge.is("nobody", x.under(0, 0, 2), NOBODY);
        Edge.is("no trees", x.trees(0, 0), 0);
    }

    private static void promise31WithoutThese() {
        Edge.refusedEach("writer", Towns.ALL, Edge.outside(0, 4), n -> x -> x.breaks(n, 0, 0), -3);
        Edge.refusedEach("book", Towns.ALL, Edge.outside(0, 1), n -> x -> x.breaks(0, n, 0), -3);
        Edge.refusedEach("what", Towns.ALL, Edge.outside(0, 1), n -> x -> x.breaks(0, 0, n), -3);
        Edge.refusedEach("writer of 12", seeing(FULL, 1), Edge.outside(0, 11), n -> x -> x.breaks(n, 0, 0), -3);
        Edge.refusedEach("book of 4", seeing(FULL, 1), Edge.outside(0, 3), n -> x -> x.breaks(0, n, 0), -3);
        Edge.refused("what, can't be", seeing(THREE, 9), x -> x.breaks(2, 0, 2), -3);
        Edge.refused("no town", seeing(Towns.NOTHING, 1), x -> x.breaks(0, 0, 0), -3);
    }

    private static void promise31NothingIsSeen() {
        for (int what = 0; what < 2; what++) {
            int w = what;
            Edge.refused("breaks", THREE, x -> x.breaks(2, 0, w), -3);
            Edge.refused("forgotten", seeing(THREE, 1).and(BorrowedHands::forget), x -> x.breaks(2, 0, w), -3);
        }
    }

    private static void promise31ItCantBeByAny() {
        for (int what = 0; what < 2; what++) {
            int w = what;
            Edge.refused("the only one", seeing(THREE, 3), x -> x.breaks(2, 0, w), -2);
            Edge.refused("the first", seeing(THREE, 3, 1), x -> x.breaks(2, 0, w), -2);
            Edge.refused("the last", seeing(THREE, 1, 2, 3), x -> x.breaks(2, 0, w), -2);
            Edge.refused("the 16th", seeing(seeing(THREE, times(15, 1)), 3), x -> x.breaks(2, 0, w), -2);
        }
    }

    private static void promise31NoBreak() {
        for (int seen : new int[] {1, 2, 16}) {
            BorrowedHands x = Edge.made(seeing(THREE, times(seen, 1)));
            Edge.is("how many", x.breaks(2, 0, 0), 0);
            Edge.is("the first", x.breaks(2, 0, 1), NONE);
        }
    }

    private static void promise31ABreakAheadOfEach() {
        BorrowedHands x = Edge.made(seeing(THREE, times(16, 1, 2)));
        Edge.is("how many", x.breaks(2, 0, 0), 15);
        Edge.is("the first", x.breaks(2, 0, 1), 1);
        BorrowedHands y = Edge.made(seeing(seeing(THREE, times(15, 1)), 2));
        Edge.is("how many", y.breaks(2, 0, 0), 1);
        Edge.is("ahead of the last", y.breaks(2, 0, 1), 15);
    }

    private static void promise31AsLateAsCanBe() {
        BorrowedHands x = Edge.made(seeing(FLIP_AND_SET, 0, 1, 1));
        Edge.is("how many", x.breaks(2, 0, 0), 1);
        Edge.is("the first", x.breaks(2, 0, 1), 2);
    }

    private static void promise31TheSameTillABreak() {
        Edge.Story story = Towns.of("writer 1 flip 0;writer 2 set 0;writer 9 plain;book 0 1 1");
        BorrowedHands x = Edge.made(seeing(story, 1, 0, 1));
        Edge.is("one of two, then he, then the other", x.breaks(2, 0, 0), 1);
        Edge.is("ahead of the other", x.breaks(2, 0, 1), 2);
        Edge.is("the first stretch is his alone", x.between(2, 0, 0), 1);
        Edge.is("the second", x.between(2, 0, 1), NOBODY + 2);
    }

    private static void promise31FromTheLastPageOnRound() {
        Edge.Story story = Towns.of("writer 0 plain;writer 9 flip 15;book 1 2 3;book 7");
        int[] lines = times(16, 32769, 32770, 32771);
        BorrowedHands x = Edge.made(seeing(story, lines));
        Edge.is("of three pages", x.breaks(1, 0, 0), 0);
        Edge.is("of one page", x.breaks(1, 1, 0), -2);
        lines[15] = 32770;
        Edge.is("the 16th is of page 0", Edge.made(seeing(story, lines)).breaks(1, 0, 0), -2);
        Edge.Story full = Towns.of("writer 9 flip 15;book 1 2 3 4 5 6 7 8");
        Edge.is("of eight pages", Edge.made(seeing(full, times(16, 32769, 32770, 32771, 32772, 32773, 32774, 32775, 32776)))
            .breaks(0, 0, 0), 0);
    }

    private static void promise31ThePurseIsLess() {
        Edge.Story story = Towns.of("writer 5 flip 0;writer 5 flip 1;writer 6 flip 2;writer 4 flip 3;book 0");
        Edge.is("like", Edge.made(seeing(story, 3)).breaks(0, 0, 0), -2);
        Edge.is("more", Edge.made(seeing(story, 5)).breaks(0, 0, 0), -2);
        Edge.is("himself", Edge.made(seeing(story, 0)).breaks(0, 0, 0), -2);
        Edge.is("less", Edge.made(seeing(story, 9)).breaks(0, 0, 0), 0);
        Edge.is("nobody", Edge.made(seeing(story, 1)).breaks(0, 0, 0), 0);
    }

    private static void promise31HeAsIfInNoMoodNotDead() {
        Edge.Story story = Towns.of("writer 3 flip 0;writer 1 flip 1;book 0").and(x -> x.day(0)).and(x -> x.die(0));
        Edge.is("moods", Edge.made(story).count(7), 1);
        Edge.is("he adds his habit", Edge.made(seeing(story, 3)).breaks(0, 0, 0), 0);
        Edge.is("of the page", Edge.made(seeing(story, 1)).breaks(0, 0, 0), 0);
        Edge.is("he does not let it pass", Edge.made(seeing(story, 2)).breaks(0, 0, 0), -2);
    }

    private static void promise31OthersAsTheyAre() {
        Edge.is("stock", Edge.made(seeing(DEAD, 2)).breaks(4, 0, 0), 0);
        Edge.is("over stock", Edge.made(seeing(DEAD, 6)).breaks(4, 0, 0), 0);
        Edge.is("no line of the dead", Edge.made(seeing(DEAD, 1)).breaks(4, 0, 0), -2);
        Edge.Story mood = Towns.of("writer 1 flip 0;writer 9 flip 1;book 0").and(x -> x.day(0));
        Edge.is("one in a mood", Edge.made(seeing(mood, 3)).breaks(1, 0, 0), -2);
        Edge.is("one in a mood", Edge.made(seeing(mood, 2)).between(1, 0, 0), NOBODY + 1);
    }

    private static void promise32WithoutThese() {
        Edge.refusedEach("one", Towns.ALL, Edge.outside(0, 4), n -> x -> x.untangle(n, 0, 0, 0), NONE);
        Edge.refusedEach("other", Towns.ALL, Edge.outside(0, 4), n -> x -> x.untangle(0, n, 0, 0), NONE);
        Edge.refusedEach("book", Towns.ALL, Edge.outside(0, 1), n -> x -> x.untangle(0, 1, n, 0), NONE);
        Edge.refusedEach("one of 12", FULL, Edge.outside(0, 11), n -> x -> x.untangle(n, 0, 0, 0), NONE);
        Edge.refusedEach("other of 12", FULL, Edge.outside(0, 11), n -> x -> x.untangle(0, n, 0, 0), NONE);
        Edge.refusedEach("book of 4", FULL, Edge.outside(0, 3), n -> x -> x.untangle(0, 1, n, 0), NONE);
        Edge.refused("no town", Towns.NOTHING, x -> x.untangle(0, 1, 0, 0), NONE);
        Edge.refused("no writers, n too large", Towns.of("book 1"), x -> x.untangle(0, 1, 0, 9), NONE);
    }

    private static void promise32UnlikeWriters() {
        for (int writer = 0; writer < 5; writer++) {
            int w = writer;
            Edge.refused("untangle " + w, Towns.ALL, x -> x.untangle(w, w, 0, 0), NONE);
        }
    }

    private static void promise32NOutsideWhatIsSeen() {
        for (int n : new int[] {-1, -2, MIN, 3, 4, 16, 17, 18, MAX}) {
            Edge.refused("n " + n, seeing(TWELVE, 7, 7), x -> x.untangle(0, 1, 0, n), 0);
        }
        for (int n : new int[] {-1, MIN, 17, 18, 32, MAX}) {
            Edge.refused("n " + n, seeing(TWELVE, times(16, 7)), x -> x.untangle(0, 1, 0, n), 0);
        }
    }

    private static void promise32NothingIsSeen() {
        Edge.is("none of none", Edge.made(TWELVE).untangle(0, 1, 0, 0), 1);
        Edge.is("one of none", Edge.made(TWELVE).untangle(0, 1, 0, 1), 0);
        Edge.is("-1 of none", Edge.made(TWELVE).untangle(0, 1, 0, -1), 0);
    }

    private static void promise32AllWaysOfSixteen() {
        BorrowedHands x = Edge.made(seeing(TWELVE, times(16, 7)));
        long ways = 1;
        for (int n = 0; n <= 16; n++) {
            Edge.is("n " + n, x.untangle(10, 11, 0, n), ways);
            ways = ways * (16 - n) / (n + 1);
        }
    }

    private static void promise32OfOneAlone() {
        BorrowedHands x = Edge.made(seeing(THREE, times(16, 1)));
        Edge.is("all of the first", x.untangle(0, 1, 0, 16), 1);
        Edge.is("all but one", x.untangle(0, 1, 0, 15), 0);
        Edge.is("none of the first", x.untangle(1, 0, 0, 0), 1);
        Edge.is("of neither", Edge.made(seeing(THREE, 1, 3)).untangle(0, 1, 0, 1), 0);
    }

    private static void promise32FromTheLastPageOnRound() {
        Edge.Story story = Towns.of("writer 0 plain;writer 9 flip 15;book 1 2 3;book 7");
        BorrowedHands x = Edge.made(seeing(story, times(16, 1, 32770, 3)));
        Edge.is("of three pages", x.untangle(0, 1, 0, 11), 1);
        Edge.is("of three pages", x.untangle(1, 0, 0, 5), 1);
        Edge.is("of one page", x.untangle(0, 1, 1, 16), 0);
    }

    private static void promise32NoLineIsOfNobody() {
        Edge.Story story = seeing(DEAD, 2, 10);
        Edge.is("stock", Edge.made(story).untangle(2, 0, 0, 2), 1);
        Edge.is("none has no ways", Edge.made(story).untangle(0, 2, 0, 1), 0);
        Edge.is("none has no ways", Edge.made(story).untangle(0, 1, 0, 0), 0);
    }

    private static void promise33WithoutThese() {
        Edge.refusedEach("book", Towns.ALL, Edge.outside(0, 1), n -> x -> x.tells(n, 3, 0), NONE);
        Edge.refusedEach("book of 4", FULL, Edge.outside(0, 3), n -> x -> x.tells(n, 3, 0), NONE);
        Edge.refusedEach("what", Towns.ALL, Edge.outside(0, 1), n -> x -> x.tells(0, 3, n), NONE);
        Edge.refusedEach("set", Towns.ALL, Edge.outside(0, 31), n -> x -> x.tells(0, n, 0), NONE);
        Edge.refusedEach("set with others", Towns.ALL, new int[] {32 + 3, 64 + 3, 1 << 30 | 3, MIN | 3, -1},
            n -> x -> x.tells(0, n, 0), NONE);
        Edge.refusedEach("set of 12", FULL, new int[] {4096, 4096 + 3, 1 << 30 | 3, MIN | 3, -1},
            n -> x -> x.tells(0, n, 0), NONE);
        Edge.refused("no town", Towns.NOTHING, x -> x.tells(0, 3, 0), NONE);
    }

    private static void promise33FewerThanTwoWriters() {
        Edge.refused("nobody", Towns.ALL, x -> x.tells(0, 0, 0), NONE);
        for (int writer = 0; writer < 5; writer++) {
            int set = 1 << writer;
            Edge.refused("one", Towns.ALL, x -> x.tells(0, set, 0), NONE);
            Edge.refused("one", Towns.ALL, x -> x.tells(0, set, 1), NONE);
        }
    }

    private static void promise33ByNone() {
        Edge.refused("two alike", FULL, x -> x.tells(0, 3, 0), -2);
        Edge.refused("two alike", FULL, x -> x.tells(0, 3, 1), -2);
        Edge.refused("two alike among others", FULL.and(x -> x.teach(0, 1, 15, 0)), x -> x.tells(3, 4095, 0), -2);
    }

    private static void promise33NoneIsUnlikeEachLineLikeNone() {
        Edge.is("none and a line", Edge.made(DEAD).tells(0, 1 | 16, 1), 1);
        Edge.refused("none and none", DEAD, x -> x.tells(0, 3, 0), -2);
    }

    /* Writer 8 is plain; writer p sets sign p, which is 0 on page p alone. */
    private static Edge.Story eachPageForOne() {
        StringBuilder text = new StringBuilder();
        StringBuilder book = new StringBuilder("book");
        for (int p = 0; p < 8; p++) {
            text.append("writer 0 set ").append(p).append(';');
            book.append(' ').append(65535 - (1 << p));
        }
        return Towns.of(text + "writer 0 plain;" + book);
    }

    private static void promise33AllEightPages() {
        BorrowedHands x = Edge.made(eachPageForOne());
        Edge.is("how many", x.tells(0, 511, 0), 8);
        Edge.is("which", x.tells(0, 511, 1), 255);
        Edge.is("one, the last", x.tells(0, 256 | 128, 1), 128);
        Edge.is("one, the first", x.tells(0, 256 | 1, 1), 1);
    }

    private static void promise33OfLikeOnesTheLeastNumber() {
        BorrowedHands x = Edge.made(eachPageForOne());
        Edge.is("two writers, one of two pages", x.tells(0, 1 | 128, 1), 1);
        Edge.is("two pages for three writers", x.tells(0, 1 | 2 | 128, 1), 3);
        Edge.is("how many", x.tells(0, 1 | 2 | 128, 0), 2);
    }

    private static void promise34WithoutThese() {
        Edge.refusedEach("writer", Towns.ALL, Edge.outside(0, 4), n -> x -> x.slips(n, 0, 0, 8, 0), -3);
        Edge.refusedEach("book", Towns.ALL, Edge.outside(0, 1), n -> x -> x.slips(0, n, 0, 8, 0), -3);
        Edge.refusedEach("page", Towns.ALL, Edge.outside(0, 2), n -> x -> x.slips(0, 0, n, 8, 0), -3);
        Edge.refusedEach("line", Towns.ALL, Edge.outside(0, 65535), n -> x -> x.slips(0, 0, 0, n, 0), -3);
        Edge.refusedEach("what", Towns.ALL, Edge.outside(0, 4), n -> x -> x.slips(0, 0, 0, 8, n), -3);
        Edge.refusedEach("writer of 12", FULL, Edge.outside(0, 11), n -> x -> x.slips(n, 0, 0, 8, 0), -3);
        Edge.refusedEach("book of 4", FULL, Edge.outside(0, 3), n -> x -> x.slips(0, n, 0, 8, 0), -3);
        Edge.refusedEach("page of 8", FULL, Edge.outside(0, 7), n -> x -> x.slips(0, 0, n, 8, 0), -3);
        Edge.refused("page of a dead one", DEAD, x -> x.slips(0, 0, 2, 0, 0), -3);
        Edge.refused("line of a dead one", DEAD, x -> x.slips(0, 0, 0, 65536, 0), -3);
        Edge.refused("what of a dead one", DEAD, x -> x.slips(0, 0, 0, 0, 5), -3);
        Edge.refused("no town", Towns.NOTHING, x -> x.slips(0, 0, 0, 0, 0), -3);
    }

    private static void promise34AsTrace() {
        for (int what = 0; what <= 4; what++) {
            int w = what;
            for (int writer = 0; writer < 4; writer++) {
                int who = writer;
                Edge.refused("writer " + who + " " + w, DEAD, x -> x.slips(who, 0, 0, 2, w), -2);
            }
        }
        Edge.is("alive", Edge.made(DEAD).slips(4, 0, 0, 1, 0), 2);
    }

    private static void promise34ThereAreNone() {
        Edge.Story story = Towns.of("writer 1 plain;book 0");
        Edge.refused("how many", story, x -> x.slips(0, 0, 0, 3, 0), 0);
        for (int what = 1; what <= 4; what++) {
            int w = what;
            Edge.refused("what " + w, story, x -> x.slips(0, 0, 0, 3, w), -2);
        }
    }

    private static void first(String text, int line, int kind, int first, int second) {
        BorrowedHands x = Edge.made(Towns.of(text));
        Edge.is(text + " kind", x.slips(0, 0, 0, line, 2), kind);
        Edge.is(text + " first", x.slips(0, 0, 0, line, 3), first);
        Edge.is(text + " second", x.slips(0, 0, 0, line, 4), second);
    }

    private static void promise34SignsItHasNot() {
        first("writer 1 flip 3;book 0", 0, 0, NONE, NONE);
        first("writer 1 plain;book 0", 32768, 1, 15, NONE);
        first("writer 1 flip 15;book 0", 32768, 2, 15, NONE);
        first("writer 1 flip 15;book 32768", 0, 3, 15, NONE);
        first("writer 1 plain;book 21845", 43690, 4, 1, NONE);
        first("writer 1 plain;book 21", 32768 + 20, 5, 0, 15);
        first("writer 1 set 15;book 21", 32768 + 21, 1, 15, NONE);
        first("writer 1 plain;book 0", 0, 3, 0, NONE);
        first("writer 1 clear 0;book 0", 0, 0, NONE, NONE);
    }

    private static void promise34OtherHabitsThanHeHas() {
        BorrowedHands x = Edge.made(Towns.of("writer 1 plain;book 0"));
        Edge.is("all that leave it 0 but plain", x.slips(0, 0, 0, 0, 0), 16 + 15 + 240 + 240);
        x.teach(0, 1, 0, 0);
        Edge.is("all that leave it 0", x.slips(0, 0, 0, 0, 0), 1 + 16 + 15 + 240 + 240);
        x.teach(0, 6, 15, 14);
        Edge.is("all but the last copy", x.slips(0, 0, 0, 0, 0), 16 + 1 + 15 + 240 + 239);
        Edge.is("flip and set 15", x.slips(0, 0, 0, 32768, 0), 2);
    }

    private static void promise34WhoIsInNoMood() {
        BorrowedHands x = Edge.made(Towns.of("writer 1 plain;writer 2 plain under 0;book 0"));
        Edge.is("both", x.slips(1, 0, 0, 1, 0), 4);
        Edge.is("the lower number first", x.slips(1, 0, 0, 1, 1), 0);
        x.day(0);
        Edge.is("moods", x.count(7), 1);
        Edge.is("the upper alone", x.slips(1, 0, 0, 1, 0), 2);
        Edge.is("the upper alone", x.slips(1, 0, 0, 1, 1), 1);
        Edge.is("the lower: none", x.slips(0, 0, 0, 0, 0), 0);
        Edge.is("the lower: none", x.slips(0, 0, 0, 0, 1), -2);
    }

    /* Each of his hands is taught each habit, and his line is looked at. */
    private static void promise34AllHabitsOfAllHands() {
        String[] towns = {"writer 1 plain;writer 2 set 3 under 0;writer 3 turn 1 under 1;writer 4 copy 0 5 under 2;book 9 0",
            "writer 1 swap 0 1;writer 2 clear 0 under 0;writer 3 flip 15 under 1;book 3 65535",
            "writer 1 turn 15;writer 2 copy 15 0 under 0;writer 3 set 0 under 1;writer 4 turn 8 under 2;book 32769 1"};
        for (String text : towns) {
            BorrowedHands x = Edge.made(Towns.of(text));
            int top = x.count(0) - 1;
            for (int page = 0; page < 2; page++) {
                for (int flipped = 0; flipped < 3; flipped++) {
                    slipsByTrying(text, top, page, x.line(top, 0, page) ^ flipped * 16385 & 65535);
                }
            }
        }
    }

    private static void slipsByTrying(String text, int top, int page, int line) {
        int[] first = {-2, -2, -2, -2};
        int many = 0;
        for (int w = 0; w <= top; w++) {
            for (int habit = 0; habit < 7 * 256; habit++) {
                BorrowedHands y = Edge.made(Towns.of(text));
                int kind = habit / 256;
                int a = habit / 16 % 16;
                int b = habit % 16;
                boolean twice = kind == 0 && habit > 0 || kind < 5 && b > 0;
                if (twice || y.teach(w, kind, a, b) < 0 || y.line(top, 0, page) != line) {
                    continue;
                }
                if (many == 0) {
                    first = new int[] {w, kind, y.writer(w, 2), y.writer(w, 3)};
                }
                many++;
            }
        }
        BorrowedHands x = Edge.made(Towns.of(text));
        Edge.is(text + " " + line, x.slips(top, 0, page, line, 0), many);
        for (int what = 1; what <= 4; what++) {
            Edge.is(text + " " + line + " " + what, x.slips(top, 0, page, line, what), first[what - 1]);
        }
    }

    private static void promise34LinesOf0To65535() {
        BorrowedHands x = Edge.made(Towns.of("writer 1 plain;book 65535 1"));
        Edge.is("65535", x.slips(0, 0, 0, 65535, 0), 16 + 15 + 240 + 240);
        Edge.is("0", x.slips(0, 0, 1, 0, 0), 2 + 15);
        Edge.is("0: flip 0", x.slips(0, 0, 1, 0, 2), 1);
    }

    private static void promise35WithoutThese() {
        Edge.refusedEach("book", Towns.ALL, Edge.outside(0, 1), n -> x -> x.errors(n, 0, 0), NONE);
        Edge.refusedEach("page", Towns.ALL, Edge.outside(0, 2), n -> x -> x.errors(0, n, 0), NONE);
        Edge.refusedEach("sign", Towns.ALL, Edge.outside(0, 15), n -> x -> x.errors(0, 0, n), NONE);
        Edge.refusedEach("book of 4", FULL, Edge.outside(0, 3), n -> x -> x.errors(n, 0, 0), NONE);
        Edge.refusedEach("page of 8", FULL, Edge.outside(0, 7), n -> x -> x.errors(0, n, 0), NONE);
        Edge.refused("no town", Towns.NOTHING, x -> x.errors(0, 0, 0), NONE);
    }

    private static void promise35NoLineNoError() {
        BorrowedHands x = Edge.made(DEAD);
        Edge.is("the dead without stock, and one over him", x.errors(0, 0, 0), 0);
        Edge.is("the dead with stock, and one over him", x.errors(0, 0, 1), 4 + 8);
    }

    private static void promise35FromNobodyToAll() {
        BorrowedHands x = Edge.made(Towns.of(Edge.many("writer 1 flip 15", 12) + ";book 0 65535"));
        Edge.is("all, the last sign", x.errors(0, 0, 15), 4095);
        Edge.is("all, of page 1", x.errors(0, 1, 15), 4095);
        Edge.is("nobody", x.errors(0, 0, 0), 0);
        Edge.is("no writers", Edge.made(Towns.of("book 1")).errors(0, 0, 0), 0);
        BorrowedHands y = Edge.made(Towns.of("writer 1 set 0;writer 1 set 15;book 0 65535"));
        for (int sign = 0; sign < 16; sign += 15) {
            Edge.is("of page 0", y.errors(0, 0, sign), sign == 0 ? 1 : 2);
            Edge.is("of page 1, behind it", y.errors(0, 1, sign), 0);
        }
    }

    private static void promise36WithoutThese() {
        Edge.refusedEach("book", Towns.ALL, Edge.outside(0, 1), n -> x -> x.nested(n, 0, 0), NONE);
        Edge.refusedEach("page", Towns.ALL, Edge.outside(0, 2), n -> x -> x.nested(0, n, 0), NONE);
        Edge.refusedEach("what", Towns.ALL, Edge.outside(0, 3), n -> x -> x.nested(0, 0, n), NONE);
        Edge.refusedEach("book of 4", FULL, Edge.outside(0, 3), n -> x -> x.nested(n, 0, 0), NONE);
        Edge.refusedEach("page of 8", FULL, Edge.outside(0, 7), n -> x -> x.nested(0, n, 0), NONE);
        Edge.refused("no town", Towns.NOTHING, x -> x.nested(0, 0, 0), NONE);
    }

    private static void nested(String text, int clashes, int unlike, int longest) {
        BorrowedHands x = Edge.made(Towns.of(text));
        Edge.is(text + " nested", x.nested(0, 0, 0), clashes == 0 ? 1 : 0);
        Edge.is(text + " clashes", x.nested(0, 0, 1), clashes);
        Edge.is(text + " unlike", x.nested(0, 0, 2), unlike);
        Edge.is(text + " longest", x.nested(0, 0, 3), longest);
    }

    private static void promise36ButTheEmptyOne() {
        nested("book 5", 0, 0, 0);
        nested("writer 1 plain;book 5", 0, 0, 0);
        nested("writer 1 flip 15;book 5", 0, 1, 1);
    }

    private static void promise36SomeInCommonAndNeitherWithin() {
        nested("writer 1 flip 0;writer 1 flip 1;book 0", 0, 2, 1);
        nested("writer 1 turn 1;book 1", 0, 1, 1);
        nested("writer 1 flip 0;writer 2 flip 1 under 0;book 0", 0, 2, 2);
        nested("writer 1 flip 0;writer 1 flip 1;writer 2 flip 1 under 0;book 0", 1, 2, 1);
        nested("writer 1 flip 0;writer 1 flip 1;writer 1 flip 2;writer 2 flip 1 under 0;writer 2 flip 2 under 1;"
            + "writer 2 flip 0 under 2;book 0", 3, 3, 1);
    }

    private static void promise36ARowOfTwelve() {
        for (int firstSign : new int[] {0, 4, 11}) {
            StringBuilder text = new StringBuilder("writer 0 flip " + firstSign);
            for (int w = 1; w < 12; w++) {
                int sign = firstSign == 11 ? 11 - w : firstSign + w;
                text.append(";writer ").append(w).append(" flip ").append(sign).append(" under ").append(w - 1);
            }
            nested(text + ";book 0", 0, 12, 12);
        }
    }

    private static void promise36ARowFromOneWriterOn() {
        BorrowedHands x = Edge.made(Towns.of("writer 9 flip 1;writer 1 flip 0;book 0"));
        x.hire(0, 1);
        Edge.is("writer 0, then both", x.nested(0, 0, 3), 2);
        Edge.is("unlike", x.nested(0, 0, 2), 2);
    }

    private static void promise37WithoutThese() {
        Edge.refusedEach("one", Towns.ALL, Edge.outside(0, 4), n -> x -> x.shared(n, 0), NONE);
        Edge.refusedEach("other", Towns.ALL, Edge.outside(0, 4), n -> x -> x.shared(0, n), NONE);
        Edge.refusedEach("both", Towns.ALL, Edge.outside(0, 4), n -> x -> x.shared(n, n), NONE);
        Edge.refusedEach("one of 12", FULL, Edge.outside(0, 11), n -> x -> x.shared(n, 0), NONE);
        Edge.refusedEach("other of 12", FULL, Edge.outside(0, 11), n -> x -> x.shared(0, n), NONE);
        Edge.refused("no town", Towns.NOTHING, x -> x.shared(0, 0), NONE);
    }

    private static void promise37None() {
        Edge.refused("two alone", FULL, x -> x.shared(0, 11), -2);
        Edge.Story twoChains = FULL.and(x -> x.hire(11, 9)).and(x -> x.hire(10, 8)).and(x -> x.hire(9, 7));
        Edge.refused("two chains", twoChains, x -> x.shared(11, 10), -2);
    }

    private static void promise37TheFirstOfHisHands() {
        BorrowedHands x = Edge.made(FULL);
        x.hire(11, 10);
        x.hire(10, 1);
        x.hire(9, 1);
        x.hire(1, 0);
        Edge.is("the first, not the lowest", x.shared(11, 9), 1);
        Edge.is("he himself", x.shared(10, 11), 10);
        Edge.is("the lowest", x.shared(11, 0), 0);
        Edge.is("the same writer", x.shared(11, 11), 11);
    }

    private static void promise38WithoutThese() {
        Edge.refusedEach("one", Towns.ALL, Edge.outside(0, 4), n -> x -> x.quarrel(n, 0, 0, 0), NONE);
        Edge.refusedEach("other", Towns.ALL, Edge.outside(0, 4), n -> x -> x.quarrel(0, n, 0, 0), NONE);
        Edge.refusedEach("book", Towns.ALL, Edge.outside(0, 1), n -> x -> x.quarrel(0, 1, n, 0), NONE);
        Edge.refusedEach("page", Towns.ALL, Edge.outside(0, 2), n -> x -> x.quarrel(0, 1, 0, n), NONE);
        Edge.refusedEach("one of 12", FULL, Edge.outside(0, 11), n -> x -> x.quarrel(n, 0, 0, 0), NONE);
        Edge.refusedEach("other of 12", FULL, Edge.outside(0, 11), n -> x -> x.quarrel(0, n, 0, 0), NONE);
        Edge.refusedEach("book of 4", FULL, Edge.outside(0, 3), n -> x -> x.quarrel(0, 1, n, 0), NONE);
        Edge.refusedEach("page of 8", FULL, Edge.outside(0, 7), n -> x -> x.quarrel(0, 1, 0, n), NONE);
        Edge.refused("page of the dead", DEAD, x -> x.quarrel(0, 1, 0, 2), NONE);
        Edge.refused("no town", Towns.NOTHING, x -> x.quarrel(0, 0, 0, 0), NONE);
    }

    private static void promise38OneHasNone() {
        Edge.refused("the first", DEAD, x -> x.quarrel(0, 4, 0, 1), -2);
        Edge.refused("the other", DEAD, x -> x.quarrel(4, 0, 0, 1), -2);
        Edge.refused("both", DEAD, x -> x.quarrel(0, 1, 0, 0), -2);
        Edge.refused("the same", DEAD, x -> x.quarrel(0, 0, 0, 0), -2);
    }

    private static void promise38FromNoneToAllSigns() {
        BorrowedHands x = Edge.made(Towns.of("writer 1 plain;writer 1 turn 1;book 21845 65535 1"));
        Edge.is("all", x.quarrel(0, 1, 0, 0), 65535);
        Edge.is("none", x.quarrel(0, 1, 0, 1), 0);
        Edge.is("two", x.quarrel(0, 1, 0, 2), 3);
        Edge.is("the same", x.quarrel(1, 1, 0, 0), 0);
    }

    private static void promise39WithoutThese() {
        Edge.refusedEach("n", Towns.ALL, Edge.outside(0, 99), n -> x -> x.served(3, n), NONE);
        Edge.refusedEach("set", Towns.ALL, Edge.outside(0, 31), n -> x -> x.served(n, 5), NONE);
        Edge.refusedEach("set with others", Towns.ALL, new int[] {32 + 1, 64 + 1, 1 << 30 | 1, MIN | 1},
            n -> x -> x.served(n, 5), NONE);
        Edge.refusedEach("set of 12", FULL, new int[] {4096, 4097, 8191, 1 << 30, MIN, -1}, n -> x -> x.served(n, 5), NONE);
        Edge.refusedEach("set, no town", Towns.NOTHING, Edge.outside(0, 0), n -> x -> x.served(n, 0), NONE);
        Edge.refusedEach("n, no town", Towns.NOTHING, Edge.outside(0, 99), n -> x -> x.served(0, n), NONE);
    }

    private static void promise39NobodyAndNothing() {
        Edge.is("no town", new BorrowedHands().served(0, 99), 0);
        Edge.is("nobody", Edge.made(FULL).served(0, 99), 0);
        Edge.is("nothing", Edge.made(FULL).served(4095, 0), 0);
    }

    private static void promise39AllOfAll() {
        Edge.is("twelve of 99", Edge.made(Towns.of(Edge.many("writer 99 plain", 12))).served(4095, 99), 1188);
        Edge.is("as their purses", Edge.made(FULL).served(4095, 99), 66);
        Edge.is("as they want", Edge.made(FULL).served(4095, 1), 11);
    }

    private static void promise39AsManyAsHisPurse() {
        Edge.Story story = Towns.of("writer 3 plain;writer 5 plain under 0;writer 9 plain under 1;writer 0 plain;"
            + "writer 9 plain under 3;writer 6 plain;writer 99 plain under 5;writer 99 plain under 5");
        BorrowedHands x = Edge.made(story);
        Edge.is("fewer than his purse", x.served(1, 2), 2);
        Edge.is("his purse", x.served(1, 3), 3);
        Edge.is("more than his purse", x.served(1, 4), 3);
        Edge.is("by the lowest hand", x.served(4, 9), 3);
        Edge.is("together no more than the lowest makes", x.served(7, 2), 3);
        Edge.is("a purse of 0", x.served(16, 99), 0);
        Edge.is("two over one", x.served(64 + 128, 3), 6);
        Edge.is("two over one", x.served(64 + 128, 4), 6);
        Edge.is("all", x.served(255, 99), 9);
        Edge.is("one between", Edge.made(Towns.of("writer 3 plain;writer 4 plain under 0;writer 5 plain under 1;"
            + "writer 9 plain")).served(15, 1), 4);
    }

    private static void promise39ADeadOneNone() {
        BorrowedHands x = Edge.made(DEAD);
        Edge.is("dead", x.served(1, 1), 0);
        Edge.is("over him", x.served(2, 1), 0);
        Edge.is("dead with stock", x.served(4, 1), 0);
        Edge.is("over stock", x.served(8, 1), 0);
        Edge.is("alive", x.served(31, 99), 9);
        BorrowedHands y = Edge.made(Towns.of("writer 3 plain;writer 5 plain under 0"));
        y.die(1);
        Edge.is("for one below the dead", y.served(3, 2), 2);
    }

    private static void promise40WithoutThese() {
        Edge.refusedEach("writer", Towns.ALL, Edge.outside(0, 4), n -> x -> x.between(n, 0, 0), NONE);
        Edge.refusedEach("book", Towns.ALL, Edge.outside(0, 1), n -> x -> x.between(0, n, 0), NONE);
        Edge.refusedEach("writer of 12", seeing(FULL, 1), Edge.outside(0, 11), n -> x -> x.between(n, 0, 0), NONE);
        Edge.refusedEach("book of 4", seeing(FULL, 1), Edge.outside(0, 3), n -> x -> x.between(0, n, 0), NONE);
        Edge.refusedEach("k", seeing(THREE, 1), new int[] {-1, -2, MIN, MIN + 1}, n -> x -> x.between(2, 0, n), NONE);
        Edge.refused("k, can't be", seeing(THREE, 3), x -> x.between(2, 0, -1), NONE);
        Edge.refused("no town", seeing(Towns.NOTHING, 1), x -> x.between(0, 0, 0), NONE);
    }

    private static void promise40NothingIsSeen() {
        Edge.refused("between", THREE, x -> x.between(2, 0, 0), NONE);
        Edge.refused("forgotten", seeing(THREE, 1).and(BorrowedHands::forget), x -> x.between(2, 0, 0), NONE);
        Edge.refused("far", THREE, x -> x.between(2, 0, MAX), NONE);
    }

    private static void promise40ThereAreNotSoMany() {
        Edge.Story one = seeing(THREE, 1, 1);
        Edge.is("the only one", Edge.made(one).between(2, 0, 0), 1);
        Edge.refusedEach("of one", one, Edge.above(0), n -> x -> x.between(2, 0, n), -2);
        Edge.Story sixteen = seeing(THREE, times(16, 1, 2));
        for (int k = 0; k < 16; k++) {
            Edge.is("k " + k, Edge.made(sixteen).between(2, 0, k), 1 << k % 2);
        }
        Edge.refusedEach("of 16", sixteen, Edge.above(15), n -> x -> x.between(2, 0, n), -2);
    }

    private static void promise40ItCantBe() {
        Edge.refused("the first", seeing(THREE, 3, 1), x -> x.between(2, 0, 0), -2);
        Edge.refused("the last", seeing(THREE, 1, 2, 3), x -> x.between(2, 0, 0), -2);
        Edge.refused("the last", seeing(THREE, 1, 2, 3), x -> x.between(2, 0, 1), -2);
    }

    private static void promise40EachAsLateAsCanBe() {
        BorrowedHands x = Edge.made(seeing(FLIP_AND_SET, 0, 1, 1));
        Edge.is("the first", x.between(2, 0, 0), 1);
        Edge.is("the second", x.between(2, 0, 1), NOBODY + 2);
        Edge.is("no more", x.between(2, 0, 2), -2);
    }

    private static void promise40NobodyIsBit12() {
        Edge.is("nobody", Edge.made(seeing(THREE, 0)).between(2, 0, 0), NOBODY);
        Edge.is("all but himself, or nobody", Edge.made(seeing(TWELVE, times(16, 7))).between(11, 0, 0), NOBODY + 2047);
    }

    private static void promise41ForOthers() {
        for (Edge.Story story : new Edge.Story[] {Towns.ALL, Towns.NOTHING}) {
            Edge.refusedEach("count", story, Edge.outside(0, 13), n -> x -> x.count(n), NONE);
        }
    }

    private static void counts(String when, BorrowedHands x, int... due) {
        for (int what = 0; what < due.length; what++) {
            Edge.is(when + " " + what, x.count(what), due[what]);
        }
    }

    private static void promise41OfNothing() {
        counts("nothing", new BorrowedHands(), 0, 0, 0, 0, 0, 0, 0, 0, 0, 0, 0, 0, 0, 0);
    }

    private static void promise41OfAFullTown() {
        BorrowedHands x = Edge.made(FULL);
        counts("full", x, 12, 4, 32, 4095, 1, 0, 0, 0, 0, 0, 0, 0, 0, 0);
        for (int w = 1; w < 12; w++) {
            x.hire(w, w - 1);
        }
        for (int i = 0; i < 16; i++) {
            x.see(i);
        }
        for (int w = 0; w < 12; w++) {
            x.die(w);
        }
        x.praise(11, 9999);
        x.order(11, 9999);
        for (int i = 0; i < 12; i++) {
            x.day(0);
        }
        x.keep(0);
        x.keep(1);
        Due.write(x, " ".repeat(400));
        counts("all", x, 12, 4, 32, 1, 12, 9999, 9999, 4095, 4095, 16, 10, 400, 3, 12);
    }

    private static void promise41OfOneWriter() {
        counts("one", Edge.made(Towns.of("writer 1 plain")), 1, 0, 0, 1, 1, 0, 0, 0, 0, 0, 0, 0, 0, 0);
        counts("one", Edge.made(Towns.of("book 1")), 0, 1, 1, 0, 0, 0, 0, 0, 0, 0, 0, 0, 0, 0);
    }

    private static void promise41BitsOfNobodyUnder() {
        BorrowedHands x = Edge.made(FULL);
        x.hire(11, 0);
        Edge.is("all but the last", x.count(3), 2047);
        x.hire(1, 0);
        Edge.is("all but two", x.count(3), 2045);
        x.die(0);
        Edge.is("the dead, too", x.count(3), 2045);
    }

    private static void promise41FameBelow0() {
        BorrowedHands x = Edge.made(FULL);
        x.blame(0, 9999);
        x.blame(11, 9999);
        x.praise(5, 1);
        Edge.is("fame", x.count(5), -19997);
    }

    private static void promise41ShelvesAsBits() {
        BorrowedHands x = new BorrowedHands();
        x.keep(1);
        Edge.is("the second", x.count(12), 2);
        x.keep(0);
        Edge.is("both", x.count(12), 3);
        BorrowedHands y = new BorrowedHands();
        y.keep(0);
        Edge.is("the first", y.count(12), 1);
    }
}
