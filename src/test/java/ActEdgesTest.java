import java.math.BigInteger;

/** The edges of promises 5 to 18: the acts, what is undone, the shelves; and the 512 calls. */
public final class ActEdgesTest {
    private static final int NONE = Edge.NONE;
    private static final int MIN = Edge.MIN;
    private static final int MAX = Edge.MAX;
    /* Writer 3 of Towns.FIVE is dead in all of these. */
    private static final Edge.Story[] WITH_A_DEAD = {Towns.FEW, Towns.ALL};
    /* Writers 0 to 3 of these purses: 9, 10, 10, 11. */
    private static final Edge.Story PURSES = Towns.of("writer 9 plain;writer 10 plain;writer 10 plain;writer 11 plain");
    /* All twelve, one over the other. */
    private static final Edge.Story CHAIN = x -> {
        Due.tell(x, Towns.TWELVE);
        for (int w = 1; w < 12; w++) {
            x.hire(w, w - 1);
        }
    };
    /* 1 is over 0, who is dead and had no stock; 2 is alone. */
    private static final Edge.Story NO_LINES = x -> {
        Due.tell(x, "writer 1 plain;writer 2 plain under 0;writer 3 plain;book 6 7");
        x.die(0);
    };

    private ActEdgesTest() {
    }

    public static void main(String[] args) {
        Edge.runAll(ActEdgesTest.class, 5, 18);
    }

    private static void refusedWithADead(String call, Edge.Call made, long due) {
        for (Edge.Story story : WITH_A_DEAD) {
            Edge.refused(call, story, made, due);
        }
    }

    private static void promise5AnswersUpToTwelveHands() {
        BorrowedHands x = Edge.made(Towns.of(Towns.TWELVE));
        for (int w = 1; w < 12; w++) {
            Edge.is("hire " + w, x.hire(w, w - 1), w + 1);
        }
        Edge.is("the lowest", x.writer(11, 6), 0);
        Edge.is("the most hands", x.count(4), 12);
    }

    private static void promise5InPlaceOfAnotherOne() {
        BorrowedHands x = Edge.made(CHAIN);
        Edge.is("hire", x.hire(11, 0), 2);
        Edge.is("under him", x.writer(11, 4), 0);
        Edge.is("over the other one", x.writer(10, 12), 0);
        Edge.is("over the new one", x.writer(0, 12), 1 << 11 | 1 << 1);
    }

    private static void promise5ItIsSo() {
        Edge.refused("hire", Towns.of(Towns.FIVE), x -> x.hire(1, 0), -2);
        Edge.refused("hire", CHAIN, x -> x.hire(11, 10), -2);
        refusedWithADead("hire", x -> x.hire(2, 1), -2);
    }

    private static void promise5PurseIsNotLess() {
        Edge.is("less by one", Edge.made(PURSES).hire(1, 0), 2);
        Edge.refused("the same", PURSES, x -> x.hire(1, 2), -3);
        Edge.refused("more by one", PURSES, x -> x.hire(1, 3), -3);
        Edge.refused("himself", PURSES, x -> x.hire(1, 1), -3);
        refusedWithADead("one over him", x -> x.hire(0, 1), -3);
    }

    private static void promise5OneOfBothIsDead() {
        refusedWithADead("the writer", x -> x.hire(3, 0), -4);
        refusedWithADead("the one under him", x -> x.hire(2, 3), -4);
        refusedWithADead("both", x -> x.hire(3, 3), -4);
        Edge.is("one farther down may be", Edge.made(NO_LINES).hire(2, 1), 3);
    }

    private static void promise5DeadComesAheadOfItIsSo() {
        Edge.refused("the one under him", NO_LINES, x -> x.hire(1, 0), -4);
        Edge.Story deadOver = Towns.of(Towns.FIVE).and(x -> x.die(1));
        Edge.refused("the writer", deadOver, x -> x.hire(1, 0), -4);
    }

    private static void promise5DeadComesAheadOfThePurse() {
        Edge.refused("the writer", NO_LINES, x -> x.hire(0, 1), -4);
        refusedWithADead("the one under him", x -> x.hire(0, 3), -4);
    }

    private static void promise5WithoutThese() {
        for (Edge.Story story : WITH_A_DEAD) {
            Edge.refusedEach("writer", story, Edge.outside(0, 4), n -> x -> x.hire(n, 0), NONE);
            Edge.refusedEach("under", story, Edge.outside(0, 4), n -> x -> x.hire(4, n), NONE);
            Edge.refusedEach("both", story, Edge.outside(0, 4), n -> x -> x.hire(n, n), NONE);
        }
        Edge.refusedEach("writer", CHAIN, Edge.outside(0, 11), n -> x -> x.hire(n, 0), NONE);
        Edge.refusedEach("under", CHAIN, Edge.outside(0, 11), n -> x -> x.hire(11, n), NONE);
        Edge.refused("no town", Towns.NOTHING, x -> x.hire(0, 0), NONE);
        refusedWithADead("a dead one and none", x -> x.hire(3, 5), NONE);
        refusedWithADead("none and a dead one", x -> x.hire(5, 3), NONE);
    }

    private static void promise6NobodyIs() {
        Edge.refused("sack", Towns.of(Towns.FIVE), x -> x.sack(3), -2);
        refusedWithADead("sack", x -> x.sack(0), -2);
        BorrowedHands x = Edge.made(CHAIN);
        Edge.is("sack", x.sack(11), 10);
        Edge.is("again", x.sack(11), -2);
    }

    private static void promise6HeIsDead() {
        Edge.refused("one is under him", Towns.of(Towns.FIVE).and(x -> x.die(1)), x -> x.sack(1), -4);
        Edge.is("the one under him is dead", Edge.made(NO_LINES).sack(1), 0);
    }

    private static void promise6DeadComesAheadOfNobody() {
        refusedWithADead("sack", x -> x.sack(3), -4);
    }

    private static void promise6WithoutHim() {
        for (Edge.Story story : WITH_A_DEAD) {
            Edge.refusedEach("sack", story, Edge.outside(0, 4), n -> x -> x.sack(n), NONE);
        }
        Edge.refusedEach("sack", CHAIN, Edge.outside(0, 11), n -> x -> x.sack(n), NONE);
        Edge.refused("no town", Towns.NOTHING, x -> x.sack(0), NONE);
    }

    private static void promise7EachHabitAtItsEdges() {
        int[][] habits = {{1, 0, 0}, {1, 15, 0}, {2, 0, 0}, {2, 15, 0}, {3, 0, 0}, {3, 15, 0}, {4, 1, 0}, {4, 15, 0},
            {5, 0, 15}, {5, 15, 0}, {6, 0, 15}, {6, 15, 0}, {0, 0, 0}};
        BorrowedHands x = Edge.made(Towns.of("writer 1 plain"));
        int had = 0;
        for (int[] h : habits) {
            Edge.is("teach " + h[0] + " " + h[1] + " " + h[2], x.teach(0, h[0], h[1], h[2]), had);
            had = h[0];
            Edge.is("kind", x.writer(0, 1), had);
            Edge.is("first", x.writer(0, 2), had == 0 ? NONE : h[1]);
            Edge.is("second", x.writer(0, 3), had < 5 ? NONE : h[2]);
        }
    }

    private static void promise7WhatItDoesNotNeedDoesNotMatter() {
        int[] any = {MIN, -1, 0, 15, 16, MAX};
        for (int a : any) {
            Edge.is("plain " + a, Edge.made(Towns.FEW).teach(0, 0, a, a), 1);
            Edge.refused("plain again " + a, Towns.FEW.and(x -> x.teach(0, 0, 0, 0)), x -> x.teach(0, 0, a, 7), -2);
            for (int kind = 1; kind <= 4; kind++) {
                int k = kind;
                Edge.is("kind " + k + " " + a, Edge.made(Towns.of("writer 1 plain")).teach(0, k, 3, a), 0);
                Edge.refused("kind " + k + " again " + a, Towns.FEW.and(x -> x.teach(0, k, 3, 3)),
                    x -> x.teach(0, k, 3, a), -2);
            }
        }
    }

    private static void promise7ItIsSo() {
        Edge.refused("flip", Towns.of(Towns.FIVE), x -> x.teach(0, 1, 0, 0), -2);
        Edge.refused("turn", Towns.ALL, x -> x.teach(1, 4, 1, 0), -2);
        Edge.refused("swap", Towns.ALL, x -> x.teach(2, 5, 3, 4), -2);
        Edge.refused("copy", Towns.of(Towns.FIVE), x -> x.teach(3, 6, 0, 1), -2);
        Edge.refused("plain", Towns.ALL, x -> x.teach(4, 0, 0, 0), -2);
        Edge.is("another first", Edge.made(Towns.of(Towns.FIVE)).teach(3, 6, 2, 1), 6);
        Edge.is("another second", Edge.made(Towns.of(Towns.FIVE)).teach(3, 6, 0, 2), 6);
        Edge.is("another kind", Edge.made(Towns.of(Towns.FIVE)).teach(3, 5, 0, 1), 6);
        Edge.is("another sign", Edge.made(Towns.of(Towns.FIVE)).teach(0, 1, 1, 0), 1);
    }

    private static void promise7HeIsDead() {
        refusedWithADead("teach", x -> x.teach(3, 1, 1, 0), -4);
        refusedWithADead("teach", x -> x.teach(3, 0, 1, 0), -4);
    }

    private static void promise7DeadComesAheadOfItIsSo() {
        refusedWithADead("teach", x -> x.teach(3, 6, 0, 1), -4);
    }

    private static void promise7WithoutHim() {
        for (Edge.Story story : WITH_A_DEAD) {
            Edge.refusedEach("teach", story, Edge.outside(0, 4), n -> x -> x.teach(n, 1, 7, 0), NONE);
        }
        Edge.refusedEach("teach", CHAIN, Edge.outside(0, 11), n -> x -> x.teach(n, 1, 7, 0), NONE);
        Edge.refused("no town", Towns.NOTHING, x -> x.teach(0, 0, 0, 0), NONE);
    }

    private static void promise7WithoutThatKind() {
        Edge.refusedEach("teach", Towns.ALL, Edge.outside(0, 6), n -> x -> x.teach(0, n, 7, 8), NONE);
        Edge.refusedEach("the dead", Towns.ALL, Edge.outside(0, 6), n -> x -> x.teach(3, n, 7, 8), NONE);
    }

    private static void promise7WithoutThoseSigns() {
        for (int kind : new int[] {1, 2, 3, 4, 5, 6}) {
            Edge.refusedEach("first of " + kind, Towns.ALL, Edge.outside(0, 15), n -> x -> x.teach(0, kind, n, 8), NONE);
        }
        for (int kind : new int[] {5, 6}) {
            Edge.refusedEach("second of " + kind, Towns.ALL, Edge.outside(0, 15), n -> x -> x.teach(0, kind, 8, n), NONE);
            Edge.refused("the dead", Towns.ALL, x -> x.teach(3, kind, 8, 16), NONE);
        }
        Edge.refused("turn 0", Towns.ALL, x -> x.teach(0, 4, 0, 0), NONE);
    }

    private static void promise7SignsUnlike() {
        for (int kind : new int[] {5, 6}) {
            for (int sign : new int[] {0, 7, 15}) {
                Edge.refused("teach " + kind + " " + sign, Towns.ALL, x -> x.teach(0, kind, sign, sign), NONE);
            }
        }
    }

    private static void promise8Of1To9999() {
        BorrowedHands x = Edge.made(CHAIN);
        Edge.is("1", x.praise(11, 1), 1);
        Edge.is("9999", x.praise(11, 9999), 9000);
        int[] due = {0, 0, 0, 0, 0, 0, 0, 0, 9, 90, 900, 9001};
        for (int w = 0; w < 12; w++) {
            Edge.is("fame " + w, x.writer(w, 7), due[w]);
        }
        Edge.is("all", x.count(5), 10000);
    }

    private static void promise8TenthIsCut() {
        int[] praise = {9, 10, 19, 20, 99, 100, 109};
        int[] kept = {9, 9, 18, 18, 90, 90, 99};
        int[] below = {0, 1, 1, 2, 9, 9, 9};
        int[] lowest = {0, 0, 0, 0, 0, 1, 1};
        for (int i = 0; i < praise.length; i++) {
            BorrowedHands x = Edge.made(Towns.of(Towns.FIVE));
            Edge.is("praise " + praise[i], x.praise(2, praise[i]), kept[i]);
            Edge.is("fame", x.writer(2, 7), kept[i]);
            Edge.is("below", x.writer(1, 7), below[i]);
            Edge.is("lowest", x.writer(0, 7), lowest[i]);
            Edge.is("nothing goes up", x.writer(4, 7), 0);
        }
    }

    private static void promise8OneWithoutKeepsAll() {
        BorrowedHands x = Edge.made(Towns.of(Towns.FIVE));
        Edge.is("praise", x.praise(3, 9999), 9999);
        Edge.is("fame", x.writer(3, 7), 9999);
        Edge.is("one over him", x.praise(1, 1000), 900);
        Edge.is("he keeps all that comes", x.writer(0, 7), 100);
    }

    /* The document makes no exception for the dead, here and in the two promises that follow. */
    private static void promise8TheDeadToo() {
        BorrowedHands x = Edge.made(NO_LINES);
        Edge.is("praise", x.praise(0, 7), 7);
        Edge.is("one over him", x.praise(1, 20), 18);
        Edge.is("fame", x.writer(0, 7), 9);
    }

    private static void promise8WithoutThese() {
        for (Edge.Story story : WITH_A_DEAD) {
            Edge.refusedEach("n", story, Edge.outside(1, 9999), n -> x -> x.praise(2, n), NONE);
            Edge.refusedEach("writer", story, Edge.outside(0, 4), n -> x -> x.praise(n, 50), NONE);
        }
        Edge.refusedEach("writer", CHAIN, Edge.outside(0, 11), n -> x -> x.praise(n, 50), NONE);
        Edge.refused("no town", Towns.NOTHING, x -> x.praise(0, 1), NONE);
    }

    private static void promise9Of1To9999() {
        BorrowedHands x = Edge.made(CHAIN);
        Edge.is("1", x.blame(11, 1), -1);
        Edge.is("9999", x.blame(11, 9999), -10000);
        Edge.is("it stays with him", x.count(5), -10000);
        Edge.is("fame goes from above 0 to below", x.praise(0, 5), 5);
        Edge.is("below", x.blame(0, 6), -1);
    }

    private static void promise9TheDeadToo() {
        Edge.is("blame", Edge.made(NO_LINES).blame(0, 9), -9);
    }

    private static void promise9WithoutThese() {
        for (Edge.Story story : WITH_A_DEAD) {
            Edge.refusedEach("n", story, Edge.outside(1, 9999), n -> x -> x.blame(2, n), NONE);
            Edge.refusedEach("writer", story, Edge.outside(0, 4), n -> x -> x.blame(n, 50), NONE);
        }
        Edge.refusedEach("writer", CHAIN, Edge.outside(0, 11), n -> x -> x.blame(n, 50), NONE);
        Edge.refused("no town", Towns.NOTHING, x -> x.blame(0, 1), NONE);
    }

    private static void promise10Of1To9999() {
        BorrowedHands x = Edge.made(CHAIN);
        Edge.is("9999", x.order(11, 9999), 4);
        int[] due = {4, 5, 10, 20, 39, 78, 156, 312, 625, 1250, 2500, 5000};
        for (int w = 0; w < 12; w++) {
            Edge.is("coins " + w, x.writer(w, 8), due[w]);
        }
        Edge.is("all", x.count(6), 9999);
    }

    private static void promise10HalfACoinMore() {
        int[] order = {1, 2, 3, 4, 5};
        int[] kept = {1, 1, 2, 2, 3};
        int[] below = {0, 1, 1, 1, 1};
        int[] lowest = {0, 0, 0, 1, 1};
        for (int i = 0; i < order.length; i++) {
            BorrowedHands x = Edge.made(Towns.of(Towns.FIVE));
            Edge.is("order " + order[i], x.order(2, order[i]), lowest[i]);
            Edge.is("kept", x.writer(2, 8), kept[i]);
            Edge.is("below", x.writer(1, 8), below[i]);
            Edge.is("lowest", x.writer(0, 8), lowest[i]);
        }
    }

    private static void promise10OneWithoutKeepsAll() {
        BorrowedHands x = Edge.made(Towns.of(Towns.FIVE));
        Edge.is("order", x.order(3, 9999), 9999);
        Edge.is("coins", x.writer(3, 8), 9999);
        Edge.is("order of 1", x.order(0, 1), 1);
        Edge.is("coins", x.writer(0, 8), 1);
    }

    private static void promise10TheDeadToo() {
        BorrowedHands x = Edge.made(NO_LINES);
        Edge.is("order", x.order(1, 9), 4);
        Edge.is("coins", x.writer(0, 8), 4);
    }

    private static void promise10WithoutThese() {
        for (Edge.Story story : WITH_A_DEAD) {
            Edge.refusedEach("n", story, Edge.outside(1, 9999), n -> x -> x.order(2, n), NONE);
            Edge.refusedEach("writer", story, Edge.outside(0, 4), n -> x -> x.order(n, 50), NONE);
        }
        Edge.refusedEach("writer", CHAIN, Edge.outside(0, 11), n -> x -> x.order(n, 50), NONE);
        Edge.refused("no town", Towns.NOTHING, x -> x.order(0, 1), NONE);
    }

    /* Who is in a mood, if twelve draw, in numbers that do not wrap by themselves. */
    private static int drawnByTwelve(int seed) {
        BigInteger x = BigInteger.valueOf(seed);
        BigInteger all = BigInteger.ONE.shiftLeft(32);
        int moods = 0;
        for (int w = 0; w < 12; w++) {
            x = x.multiply(BigInteger.valueOf(1103515245)).add(BigInteger.valueOf(12345)).mod(all);
            if (x.shiftRight(16).mod(BigInteger.valueOf(3)).signum() == 0) {
                moods |= 1 << w;
            }
        }
        return moods;
    }

    private static void promise11TheSeedWraps() {
        for (int seed : new int[] {0, 1, 2, 3, -1, -2, 12345, 65535, 65536, 1 << 30, MAX, MAX - 1, MIN, MIN + 1}) {
            Edge.is("day " + seed, Edge.made(Towns.of(Towns.TWELVE)).day(seed), drawnByTwelve(seed));
        }
    }

    private static void promise11NoWriters() {
        BorrowedHands x = new BorrowedHands();
        Edge.is("day", x.day(0), 0);
        Edge.is("days", x.count(13), 1);
        Edge.is("it is an act", x.undo(), 0);
        Edge.is("days", x.count(13), 0);
    }

    private static void promise11OnlyThoseWithoutOneDraw() {
        BorrowedHands x = Edge.made(Towns.of("writer 1 plain;writer 2 plain under 0;writer 1 plain"));
        for (int seed = 0; seed < 40; seed++) {
            int before = x.count(7);
            int drawn = drawnByTwelve(seed);
            Edge.is("day " + seed, x.day(seed), drawn & 1 | (before & 1) << 1 | (drawn & 2) << 1);
        }
    }

    private static void promise11MoodsComeLate() {
        BorrowedHands x = Edge.made(CHAIN);
        int seed = 1;
        while ((drawnByTwelve(seed) & 1) == 1) {
            seed++;
        }
        Edge.is("the lowest", x.day(0), 1);
        for (int w = 1; w < 12; w++) {
            Edge.is("day " + w, x.day(seed), 1 << w);
        }
        Edge.is("behind the last", x.day(seed), 0);
    }

    private static void promise11TheDeadToo() {
        BorrowedHands x = Edge.made(NO_LINES);
        Edge.is("a dead one draws", x.day(0) & 1, 1);
        x.die(1);
        Edge.is("a dead one's comes late", x.day(0) & 2, 2);
    }

    private static void promise12InPlaceOfOtherOnes() {
        BorrowedHands x = Edge.made(Towns.of("writer 1 flip 0;book 0 0 0 0 0 0 0 65535;book 9"));
        Edge.is("eight pages", x.store(0, 0), 8);
        Edge.is("one page", x.store(0, 1), 1);
        x.teach(0, 1, 15, 0);
        Edge.is("again", x.store(0, 0), 8);
        x.die(0);
        Edge.is("new", x.line(0, 0, 0), 32768);
        Edge.is("new", x.line(0, 0, 7), 32767);
        Edge.is("of the other book as it was", x.line(0, 1, 0), 8);
    }

    private static void promise12ThereIsNone() {
        Edge.refused("store", NO_LINES, x -> x.store(1, 0), -2);
        Edge.refused("store", Towns.of(Towns.FIVE).and(x -> x.die(0)), x -> x.store(4, 1), -2);
        Edge.Story ofOneBook = Towns.FEW.and(x -> x.store(0, 1)).and(x -> x.die(0));
        Edge.refused("of another book", ofOneBook, x -> x.store(4, 0), -2);
        Edge.is("of that book", Edge.made(ofOneBook).store(4, 1), 1);
    }

    private static void promise12HeIsDead() {
        refusedWithADead("with stock", x -> x.store(3, 0), -4);
    }

    private static void promise12DeadComesAheadOfNone() {
        refusedWithADead("without stock", x -> x.store(3, 1), -4);
        Edge.refused("without stock", NO_LINES, x -> x.store(0, 0), -4);
    }

    private static void promise12WithoutThese() {
        for (Edge.Story story : WITH_A_DEAD) {
            Edge.refusedEach("writer", story, Edge.outside(0, 4), n -> x -> x.store(n, 0), NONE);
            Edge.refusedEach("book", story, Edge.outside(0, 1), n -> x -> x.store(0, n), NONE);
            Edge.refusedEach("book of the dead", story, Edge.outside(0, 1), n -> x -> x.store(3, n), NONE);
        }
        Edge.refusedEach("writer", Towns.of(Towns.FULL), Edge.outside(0, 11), n -> x -> x.store(n, 0), NONE);
        Edge.refusedEach("book", Towns.of(Towns.FULL), Edge.outside(0, 3), n -> x -> x.store(0, n), NONE);
        Edge.refused("no books", Towns.of(Towns.TWELVE), x -> x.store(0, 0), NONE);
        Edge.refused("no town", Towns.NOTHING, x -> x.store(0, 0), NONE);
    }

    private static void promise13HowManyHaveNoLine() {
        Edge.is("without books", Edge.made(CHAIN).die(0), 0);
        Edge.is("one book of one page", Edge.made(Towns.of("writer 1 plain;book 1")).die(0), 1);
        BorrowedHands x = Edge.made(Towns.of(Towns.FULL));
        for (int w = 1; w < 12; w++) {
            x.hire(w, w - 1);
        }
        Edge.is("the lowest of all", x.die(0), 12);
        x.undo();
        Edge.is("the highest of all", x.die(11), 1);
        x.undo();
        for (int b = 0; b < 3; b++) {
            x.store(0, b);
        }
        Edge.is("stock but of the last book", x.die(0), 12);
        x.undo();
        x.store(0, 3);
        Edge.is("stock of all", x.die(0), 0);
    }

    private static void promise13HeIs() {
        refusedWithADead("die", x -> x.die(3), -4);
        Edge.refused("die", NO_LINES, x -> x.die(0), -4);
    }

    private static void promise13WithoutHim() {
        for (Edge.Story story : WITH_A_DEAD) {
            Edge.refusedEach("die", story, Edge.outside(0, 4), n -> x -> x.die(n), NONE);
        }
        Edge.refusedEach("die", CHAIN, Edge.outside(0, 11), n -> x -> x.die(n), NONE);
        Edge.refused("no town", Towns.NOTHING, x -> x.die(0), NONE);
    }

    private static Edge.Story seen(int many) {
        return x -> {
            Towns.FEW.goesOn(x);
            for (int i = 2; i < many; i++) {
                x.see(i);
            }
        };
    }

    private static void promise14LinesOf0To65535() {
        BorrowedHands x = Edge.made(Towns.of("writer 1 plain;book 0 65535"));
        Edge.is("0", x.see(0), 1);
        Edge.is("65535", x.see(65535), 2);
        Edge.is("they are kept so", x.breaks(0, 0, 0), 0);
    }

    private static void promise14SixteenAreSeen() {
        BorrowedHands x = Edge.made(seen(15));
        Edge.is("the last", x.see(0), 16);
        Edge.is("seen", x.count(9), 16);
    }

    private static void promise14ThereAre16() {
        for (int line : new int[] {0, 4, 65535}) {
            Edge.refused("see", seen(16), x -> x.see(line), -3);
        }
    }

    private static void promise14ForOthers() {
        for (int many : new int[] {2, 15, 16}) {
            Edge.refusedEach("of " + many, seen(many), Edge.outside(0, 65535), n -> x -> x.see(n), NONE);
        }
        Edge.refusedEach("see", Towns.ALL, Edge.outside(0, 65535), n -> x -> x.see(n), NONE);
    }

    private static void promise15NothingIsSeen() {
        Edge.refused("no town", Towns.NOTHING, BorrowedHands::forget, NONE);
        Edge.refused("a new town", Towns.of(Towns.FIVE), BorrowedHands::forget, NONE);
        Edge.refused("forgotten", Towns.ALL.and(BorrowedHands::forget), BorrowedHands::forget, NONE);
    }

    private static void promise15AllAreForgotten() {
        BorrowedHands x = Edge.made(seen(16));
        Edge.is("forget", x.forget(), 16);
        Edge.is("seen", x.count(9), 0);
        Edge.is("see", x.see(1), 1);
        Edge.is("forget one", x.forget(), 1);
    }

    private static void promise16NoneCan() {
        Edge.refused("no town", Towns.NOTHING, BorrowedHands::undo, NONE);
        Edge.refused("a new town", Towns.of(Towns.FIVE), BorrowedHands::undo, NONE);
        Edge.refused("all are undone", Towns.ALL.and(x -> {
            for (int i = 0; i < 10; i++) {
                x.undo();
            }
            return 0;
        }), BorrowedHands::undo, NONE);
    }

    private static void promise16TheLastTen() {
        for (int acts : new int[] {1, 9, 10, 11, 12, 20, 21, 25}) {
            BorrowedHands x = Edge.made(Towns.of(Towns.FIVE));
            for (int i = 0; i < acts; i++) {
                x.blame(0, 1);
            }
            int can = Math.min(acts, 10);
            Edge.is("acts of " + acts, x.count(10), can);
            for (int i = 1; i <= can; i++) {
                Edge.is("undo " + i + " of " + acts, x.undo(), can - i);
                Edge.is("the last first", x.writer(0, 7), i - acts);
            }
            Edge.is("none more", x.undo(), NONE);
            Edge.is("the first stay", x.writer(0, 7), can - acts);
        }
    }

    private static void promise16ActsBehindOnesThatWereUndone() {
        BorrowedHands x = Edge.made(Towns.of(Towns.FIVE));
        for (int i = 0; i < 13; i++) {
            x.blame(0, 1);
        }
        x.undo();
        x.undo();
        x.undo();
        x.blame(0, 100);
        x.blame(0, 1000);
        Edge.is("acts", x.count(10), 9);
        Edge.is("undo", x.undo(), 8);
        Edge.is("fame", x.writer(0, 7), -110);
        Edge.is("undo", x.undo(), 7);
        Edge.is("fame", x.writer(0, 7), -10);
        Edge.is("undo", x.undo(), 6);
        Edge.is("fame", x.writer(0, 7), -9);
    }

    private static void undone(String act, Edge.Story story, Edge.Call made) {
        int acts = Edge.made(story).count(10);
        BorrowedHands x = Edge.made(story);
        Edge.is(act + " stands: 1", made.on(x) >= 0 ? 1 : 0, 1);
        Edge.is(act + " counts", x.count(10), acts + 1);
        Edge.is(act + " undone", x.undo(), acts);
        Edge.alike(act + " undone", story, story.and(made).and(BorrowedHands::undo));
    }

    /* Four acts stand behind this story, so none is pushed out by one more. */
    private static void promise16EachActIsUndoneWhole() {
        undone("hire", Towns.FEW, x -> x.hire(4, 0));
        undone("sack", Towns.FEW, x -> x.sack(4));
        undone("teach", Towns.FEW, x -> x.teach(2, 6, 7, 8));
        undone("praise", Towns.FEW, x -> x.praise(4, 9999));
        undone("order", Towns.FEW, x -> x.order(4, 9999));
        undone("day", Towns.FEW, x -> x.day(0));
        undone("store", Towns.FEW, x -> x.store(2, 0));
        undone("store in place", Towns.FEW.and(x -> x.store(0, 0)).and(x -> x.teach(0, 0, 0, 0)), x -> x.store(0, 0));
        undone("die", Towns.FEW, x -> x.die(0));
        undone("see", Towns.FEW, x -> x.see(65535));
        undone("forget", Towns.FEW, BorrowedHands::forget);
        undone("forget, see", Towns.FEW.and(BorrowedHands::forget), x -> x.see(1));
        Edge.Story blamed = Towns.FEW.and(x -> x.blame(2, 9999)).and(BorrowedHands::undo);
        Edge.alike("blame undone", Towns.FEW, blamed);
    }

    private static void promise16OtherCallsAreNoActs() {
        BorrowedHands x = Edge.made(Towns.FEW);
        x.feed(0, 0, 0, 0, 0);
        x.end(5);
        x.keep(0);
        x.keep(1);
        x.line(0, 0, 0);
        x.slips(0, 0, 0, 0, 0);
        Edge.is("acts", x.count(10), 4);
        Edge.is("undo", x.undo(), 3);
        Edge.is("it undid see()", x.count(9), 1);
        Edge.is("the tape stays", x.count(11), 5);
        Edge.is("the shelves stay", x.count(12), 3);
        x.back(0);
        Edge.is("what is kept stays", x.count(9), 2);
    }

    private static void promise17WithoutThatShelf() {
        for (Edge.Story story : new Edge.Story[] {Towns.NOTHING, Towns.FEW, Towns.ALL}) {
            Edge.refusedEach("keep", story, Edge.outside(0, 1), n -> x -> x.keep(n), NONE);
        }
    }

    private static void promise17NoTownIsKept() {
        BorrowedHands x = new BorrowedHands();
        Edge.is("keep", x.keep(1), 0);
        Edge.is("shelves", x.count(12), 2);
        Due.tell(x, Towns.FULL);
        Edge.is("back", x.back(1), 0);
        Edge.is("no books", x.count(1), 0);
    }

    private static void promise17AFullTownIsKept() {
        Edge.Story full = x -> {
            Due.tell(x, Towns.FULL);
            for (int i = 0; i < 16; i++) {
                x.see(i);
            }
            for (int b = 0; b < 4; b++) {
                x.store(11, b);
            }
            x.die(11);
            x.day(0);
        };
        BorrowedHands y = Edge.made(full);
        Edge.is("keep", y.keep(0), 12);
        Edge.is("keep", y.keep(1), 12);
        Edge.is("shelves", y.count(12), 3);
        for (int shelf = 0; shelf < 2; shelf++) {
            int which = shelf;
            Edge.Story kept = full.and(x -> x.keep(which));
            Edge.alike("back", kept.and(x -> x.back(which)), x -> {
                kept.goesOn(x);
                Due.tell(x, Towns.FIVE);
                x.back(which);
            });
        }
    }

    private static void promise17InPlaceOfWhatWasKept() {
        BorrowedHands x = Edge.made(Towns.RICH);
        Due.tell(x, "writer 1 plain");
        Edge.is("keep", x.keep(0), 1);
        Edge.is("shelves", x.count(12), 3);
        Due.tell(x, "");
        Edge.is("back", x.back(0), 1);
        Edge.is("the other shelf stays", x.back(1), 5);
    }

    private static void promise17ButTapeActsShelves() {
        BorrowedHands x = Edge.made(Towns.ALL);
        Edge.is("keep", x.keep(0), 5);
        Edge.is("acts stay", x.count(10), 10);
        Edge.is("bytes stay", x.count(11), 14);
        Edge.is("undo goes on", x.undo(), 9);
        x.end(3);
        x.back(0);
        Edge.is("the tape is not kept", x.count(11), 3);
        Edge.is("acts are not kept", x.count(10), 0);
        Edge.is("shelves are not kept", x.count(12), 3);
    }

    private static void promise18WithoutThatShelf() {
        for (Edge.Story story : new Edge.Story[] {Towns.NOTHING, Towns.FEW, Towns.ALL}) {
            Edge.refusedEach("back", story, Edge.outside(0, 1), n -> x -> x.back(n), NONE);
        }
    }

    private static void promise18NothingIsKept() {
        for (int shelf = 0; shelf < 2; shelf++) {
            int which = shelf;
            Edge.refused("no town", Towns.NOTHING, x -> x.back(which), -2);
            Edge.refused("back", Towns.FEW, x -> x.back(which), -2);
            Edge.refused("the other one", Towns.FEW.and(x -> x.keep(1 - which)), x -> x.back(which), -2);
        }
    }

    private static void promise18NothingCanBeUndoneThen() {
        BorrowedHands x = Edge.made(Towns.ALL);
        Edge.is("back", x.back(1), 5);
        Edge.is("acts", x.count(10), 0);
        Edge.is("undo", x.undo(), NONE);
        x.blame(0, 1);
        Edge.is("one act", x.undo(), 0);
        Edge.is("none more", x.undo(), NONE);
    }

    private static void promise18AllIsAsItWasKept() {
        Edge.Story kept = Towns.FEW.and(x -> x.keep(0));
        Edge.Story changed = kept.and(x -> {
            x.hire(4, 0);
            x.sack(2);
            x.teach(0, 0, 0, 0);
            x.praise(4, 100);
            x.order(4, 100);
            x.day(0);
            x.store(2, 1);
            x.die(0);
            x.see(1);
            x.forget();
            return 0;
        });
        Edge.alike("back", kept.and(x -> x.back(0)), changed.and(x -> x.back(0)));
        Edge.Story again = changed.and(x -> x.back(0)).and(x -> x.die(1)).and(x -> x.forget());
        Edge.alike("back twice", kept.and(x -> x.back(0)), again.and(x -> x.back(0)));
    }

    /* "An object is used for at most 512 calls": the last of them is as good as the first. */
    private static void promise16The512thCall() {
        BorrowedHands x = new BorrowedHands();
        for (int i = 0; i < 511; i++) {
            x.day(i);
        }
        Edge.is("days", x.count(13), 511);
        BorrowedHands y = new BorrowedHands();
        y.feed(0x77726974, 0x65722035, 0x20706c61, 0x696e2020, 0x20202020);
        y.tell();
        for (int i = 0; i < 509; i++) {
            y.blame(0, 9999);
        }
        Edge.is("fame", y.count(5), -9999 * 509);
        BorrowedHands z = new BorrowedHands();
        for (int i = 0; i < 255; i++) {
            Edge.is("see", z.see(i), 1);
            Edge.is("forget", z.forget(), 1);
        }
        z.see(1);
        Edge.is("undo", z.undo(), 9);
    }
}
