/** Texts and stories that the tests of edges begin with. */
final class Towns {
    /* 0, 1, 2, 4 are one over the other, 3 is alone. Lines of page 5: 4, 8, 8, 7, 8. */
    static final String FIVE = "writer 5 flip 0;writer 10 turn 1 under 0;writer 20 set 3 under 1;writer 9 copy 0 1;"
        + "writer 30 plain under 2;book 5 65535 3;book 9";
    /* Purses 0 to 11, nobody under anybody. */
    static final String TWELVE = twelve();
    /* As many as a text of 400 bytes has room for: 12 writers, 4 books of 8 pages each. */
    static final String FULL = TWELVE + ";book 0 1 2 3 4 5 6 7".repeat(3) + ";book 8 9 10 11 12 13 14 65535";

    static final Edge.Story NOTHING = x -> { };
    static final Edge.Story FEW = Towns::fewActs;
    static final Edge.Story RICH = Towns::manyActs;
    /* All that an object holds is there: more acts than can be undone, both shelves, bytes on the tape. */
    static final Edge.Story ALL = x -> {
        manyActs(x);
        Due.write(x, "writer 7 plain");
    };

    private Towns() {
    }

    static Edge.Story of(String text) {
        return x -> Due.tell(x, text);
    }

    private static String twelve() {
        StringBuilder text = new StringBuilder("writer 0 plain");
        for (int w = 1; w < 12; w++) {
            text.append(";writer ").append(w).append(" plain");
        }
        return text.toString();
    }

    private static void fewActs(BorrowedHands x) {
        Due.tell(x, FIVE);
        x.store(3, 0);
        x.die(3);
        x.see(4);
        x.see(8);
    }

    private static void manyActs(BorrowedHands x) {
        Due.tell(x, FIVE);
        x.praise(2, 105);
        x.order(2, 7);
        x.day(0);
        x.store(3, 0);
        x.see(4);
        x.see(8);
        x.keep(0);
        x.die(3);
        x.blame(1, 5);
        x.hire(4, 1);
        x.teach(2, 5, 3, 4);
        x.see(65535);
        x.store(1, 1);
        x.keep(1);
        x.order(4, 100);
        x.sack(4);
        x.day(7);
    }
}
