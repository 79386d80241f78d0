/** Questions behind a story, of each kind but not with all arguments: as it is, undone, from the shelves, by the tape. */
final class Look {
    /* A story and the questions on one object stay below the 512 calls of the document. */
    private static final int MOST_ASKED = 250;
    private static final int FEED = 0x3b626f6f;

    private final Edge.Story story;
    private final StringBuilder heard = new StringBuilder();
    private final int writers;
    private final int books;
    private BorrowedHands x;
    private int asked;

    private Look(Edge.Story story) {
        this.story = story;
        x = Edge.made(story);
        writers = x.count(0);
        books = x.count(1);
    }

    static String at(Edge.Story story) {
        StringBuilder all = new StringBuilder();
        Look now = new Look(story);
        now.state();
        now.lines();
        now.seen();
        now.compared();
        now.stock();
        all.append("now ").append(now.heard);
        int acts = Edge.made(story).count(10);
        Edge.Story undone = story;
        for (int i = 0; i <= Math.min(acts, 11); i++) {
            undone = undone.and(BorrowedHands::undo);
            all.append(" undone ").append(shortLook(undone, Edge.made(undone.and(BorrowedHands::undo)).count(10)));
        }
        for (int shelf = 0; shelf < 2; shelf++) {
            int which = shelf;
            all.append(" shelf ").append(shortLook(story.and(x -> x.back(which)), Edge.made(story).back(which)));
        }
        all.append(" tape ").append(shortLook(story.and(BorrowedHands::tell), Edge.made(story).tell()));
        all.append(" fed ").append(Edge.made(story).feed(FEED, FEED, FEED, FEED, FEED));
        return all.toString();
    }

    private static String shortLook(Edge.Story story, int answer) {
        Look look = new Look(story);
        look.state();
        look.seen();
        look.stock();
        return answer + ": " + look.heard;
    }

    private void ask(Edge.Call question) {
        if (asked == MOST_ASKED) {
            x = Edge.made(story);
            asked = 0;
        }
        asked++;
        heard.append(question.on(x)).append(' ');
    }

    private int pages(int book) {
        BorrowedHands y = Edge.made(story);
        int pages = 0;
        while (pages < 8 && y.page(book, pages) >= 0) {
            pages++;
        }
        return pages;
    }

    private void state() {
        for (int i = 0; i < 14; i++) {
            int what = i;
            ask(y -> y.count(what));
        }
        heard.append("writers ");
        for (int i = 0; i < writers * 13; i++) {
            int w = i / 13;
            int what = i % 13;
            ask(y -> y.writer(w, what));
        }
        heard.append("lines ");
        for (int b = 0; b < books; b++) {
            int book = b;
            int pages = pages(book);
            for (int p = 0; p < pages; p++) {
                int page = p;
                ask(y -> y.page(book, page));
                for (int i = 0; i < writers; i++) {
                    int w = i;
                    ask(y -> y.line(w, book, page));
                }
            }
        }
    }

    /* What stock holds is seen when its writers are dead. */
    private void stock() {
        heard.append("stock ");
        BorrowedHands y = Edge.made(story);
        for (int w = 0; w < writers; w++) {
            y.die(w);
        }
        for (int b = 0; b < books; b++) {
            int pages = pages(b);
            for (int i = 0; i < pages * writers; i++) {
                heard.append(y.line(i % writers, b, i / writers)).append(' ');
            }
        }
    }

    private void lines() {
        heard.append("traces ");
        for (int i = 0; i < writers * books; i++) {
            int w = i % writers;
            int book = i / writers;
            for (int k = 0; k < 32; k += 5) {
                int sign = k / 2;
                int what = k % 2;
                ask(y -> y.trace(w, book, 0, sign, what));
            }
            ask(y -> y.own(w, book, 0));
            ask(y -> y.pay(w, book, 0));
            ask(y -> y.slips(w, book, 0, 8, 0));
            ask(y -> y.matches(w, 8));
        }
        for (int i = 0; i < 16; i++) {
            int line = i * 4369;
            ask(y -> y.fits(line, Edge.NONE));
            ask(y -> y.likeliest(line, 0));
        }
    }

    private void seen() {
        heard.append("seen ");
        for (int b = 0; b < books; b++) {
            int book = b;
            ask(y -> y.trees(book, 0));
            for (int i = 0; i < writers; i++) {
                int w = i;
                ask(y -> y.under(book, 0, w));
                ask(y -> y.breaks(w, book, 0));
                ask(y -> y.between(w, book, 0));
                ask(y -> y.untangle(w, (w + 1) % writers, book, 1));
            }
        }
    }

    private void compared() {
        heard.append("compared ");
        int all = (1 << writers) - 1;
        ask(y -> y.served(all, 9));
        for (int i = 0; i < writers * writers; i++) {
            int one = i / writers;
            int other = i % writers;
            ask(y -> y.alike(one, other));
            ask(y -> y.shared(one, other));
            ask(y -> y.quarrel(one, other, 0, 0));
        }
        for (int b = 0; b < books; b++) {
            int book = b;
            ask(y -> y.tells(book, all, 1));
            ask(y -> y.nested(book, 0, 2));
            ask(y -> y.errors(book, 0, 0));
        }
    }
}
