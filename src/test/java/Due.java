/** Counts and prints the answers that are not as due, and gives texts to an object. */
final class Due {
    private static int wrong = 0;

    private Due() {
    }

    static void is(String call, long got, long want) {
        if (got != want) {
            wrong++;
            System.out.println(call + " answered " + got + ", due is " + want);
        }
    }

    static void finish(String name) {
        System.out.println(name + ": " + (wrong == 0 ? "all answers are as due" : wrong + " answers are not as due"));
        if (wrong != 0) {
            System.exit(1);
        }
    }

    /** Puts a text on the tape, twenty bytes a call, and cuts what is too long behind it. */
    static void write(BorrowedHands x, String text) {
        int old = x.count(11);
        for (int i = 0; i < text.length(); i += 20) {
            int[] n = new int[5];
            for (int k = 0; k < 20; k++) {
                int sign = i + k < text.length() ? text.charAt(i + k) & 255 : 0;
                n[k / 4] = n[k / 4] << 8 | sign;
            }
            x.feed(n[0], n[1], n[2], n[3], n[4]);
        }
        x.end(old + text.length());
    }

    static int tell(BorrowedHands x, String text) {
        write(x, text);
        return x.tell();
    }

    static BorrowedHands town(String text) {
        BorrowedHands x = new BorrowedHands();
        int answer = tell(x, text);
        if (answer < 0) {
            is("tell of \"" + text + "\"", answer, 0);
        }
        return x;
    }
}
