import java.lang.reflect.InvocationTargetException;
import java.lang.reflect.Method;
import java.util.ArrayList;
import java.util.Arrays;
import java.util.HashMap;
import java.util.List;
import java.util.Map;
import java.util.Random;
import java.util.TreeMap;

/** Runs of drawn calls (the seeds are fixed) on the class and on its twin; the answers must be the same. */
public final class TwinTest {
    private static final int RUNS = 400;
    /* A town's text takes up to thirty calls more, and 512 are promised. */
    private static final int CALLS = 480;
    /* Of each call: how often it is drawn, and the kinds of its arguments, a letter each (see draw). */
    private static final String[] CALLS_TO_DRAW = {
        "2 end e", "3 tell", "6 hire ww", "3 sack w", "6 teach wkss", "3 praise wg", "2 blame wg", "3 order wg",
        "3 day x", "5 store wb", "1 die w", "24 see l", "4 forget", "6 undo", "2 keep h", "2 back h", "8 writer wq",
        "2 page bp", "6 line wbp", "8 trace wbpst", "4 own wbp", "8 pay wbp", "4 alike ww", "5 fits lk",
        "4 likeliest lt", "4 matches wl", "5 trees bp", "6 under bpw", "12 breaks wbt", "8 untangle wwbk",
        "6 tells bmt", "6 slips wbplf", "4 errors bps", "6 nested bpf", "3 shared ww", "3 quarrel wwbp",
        "5 served mn", "12 between wbc", "5 count q"};
    private static final int[] WILD = {-1, -2, -3, 3, 4, 7, 8, 11, 12, 13, 15, 16, 17, 31, 32, 33, 99, 100, 4095,
        4096, 9999, 10000, 65535, 65536, Integer.MAX_VALUE, Integer.MIN_VALUE, Integer.MIN_VALUE + 1};

    private final Random random;
    private final BorrowedHands real = new BorrowedHands();
    private final Twin twin = new Twin();
    private final List<String> story = new ArrayList<>();
    private int mode;
    private int stuckWriter;
    private int stuckBook;
    private int changing;
    private int calls;

    private TwinTest(long seed) {
        random = new Random(seed);
    }

    public static void main(String[] args) throws ReflectiveOperationException {
        Map<String, Method> ofReal = methods(BorrowedHands.class);
        Map<String, Method> ofTwin = methods(Twin.class);
        List<String> lots = new ArrayList<>();
        for (String call : CALLS_TO_DRAW) {
            String[] part = call.split(" ", 2);
            for (int i = 0; i < Integer.parseInt(part[0]); i++) {
                lots.add(part[1]);
            }
        }
        Map<String, int[]> told = new TreeMap<>();
        int wrong = 0;
        for (int run = 0; run < RUNS && wrong < 5; run++) {
            wrong += new TwinTest(run).play(lots, ofReal, ofTwin, told) ? 0 : 1;
        }
        if (args.length > 0) {
            told.forEach((name, n) -> System.out.println(name + " " + Arrays.toString(n)));
        }
        Due.is("runs that differ", wrong, 0);
        Due.finish("TwinTest");
    }

    private static Map<String, Method> methods(Class<?> of) {
        Map<String, Method> map = new HashMap<>();
        for (Method m : of.getDeclaredMethods()) {
            if (java.lang.reflect.Modifier.isPublic(m.getModifiers())) {
                m.setAccessible(true);
                map.put(m.getName(), m);
            }
        }
        return map;
    }

    private boolean play(List<String> lots, Map<String, Method> ofReal, Map<String, Method> ofTwin,
            Map<String, int[]> told) throws ReflectiveOperationException {
        boolean same = tellTown(ofReal, ofTwin);
        while (same && calls < CALLS) {
            String[] lot = lots.get(random.nextInt(lots.size())).split(" ");
            if (lot[0].equals("tell")) {
                same = random.nextInt(3) > 0 || tellTown(ofReal, ofTwin);
                continue;
            }
            Object[] args = new Object[lot.length > 1 ? lot[1].length() : 0];
            for (int k = 0; k < args.length; k++) {
                args[k] = random.nextInt(60) == 0 ? WILD[random.nextInt(WILD.length)] : draw(lot[1].charAt(k));
            }
            same = call(lot[0], args, ofReal, ofTwin, told);
        }
        return same;
    }

    private boolean call(String name, Object[] args, Map<String, Method> ofReal, Map<String, Method> ofTwin,
            Map<String, int[]> told) throws ReflectiveOperationException {
        long want = ((Number) ofTwin.get(name).invoke(twin, args)).longValue();
        String shown = name + Arrays.toString(args);
        long got;
        calls++;
        try {
            got = ((Number) ofReal.get(name).invoke(real, args)).longValue();
        } catch (InvocationTargetException thrown) {
            System.out.println(shown + " threw " + thrown.getCause() + " behind " + story);
            return false;
        }
        story.add(shown + "=" + want);
        int[] n = told.computeIfAbsent(name, key -> new int[5]);
        n[want > 0 ? 0 : want < -4 ? 4 : want == 0 ? 1 : want == -1 ? 2 : 3]++;
        if (got != want) {
            System.out.println(shown + " answered " + got + ", the twin " + want + ", behind " + story);
        }
        return got == want;
    }

    /* A letter is a kind of argument; most are drawn so that they stand. */
    private int draw(char kind) {
        int writers = Math.max(1, twin.count(0));
        int books = Math.max(1, twin.count(1));
        switch (kind) {
            case 'w': return random.nextBoolean() ? stuckWriter % writers : random.nextInt(writers);
            case 'b': return random.nextInt(2) == 0 ? stuckBook % books : random.nextInt(books);
            case 'p': return random.nextInt(3) == 0 ? random.nextInt(4) : 0;
            case 's': return random.nextInt(16);
            case 'k': return random.nextInt(8) - 1;
            case 'c': return random.nextInt(3);
            case 'g': return random.nextInt(3) == 0 ? 1 + random.nextInt(20) : 1 + random.nextInt(9999);
            case 'x': return random.nextInt();
            case 'h': case 't': return random.nextInt(2);
            case 'q': return random.nextInt(15);
            case 'f': return random.nextInt(5);
            case 'm': return random.nextInt(1 << writers);
            case 'n': return random.nextInt(random.nextBoolean() ? 100 : 12);
            case 'e': return random.nextInt(50);
            default: return drawLine(writers, books);
        }
    }

    /* Mostly lines that tell something: of one writer page by page, of all writers of one page, and so on. */
    private int drawLine(int writers, int books) {
        if (random.nextInt(25) == 0) {
            mode = random.nextInt(6);
            stuckWriter = random.nextInt(12);
            stuckBook = random.nextInt(4);
        }
        int seen = twin.count(9);
        int book = stuckBook % books;
        int pages = 1;
        while (twin.page(book, pages) >= 0) {
            pages++;
        }
        int line;
        switch (mode) {
            case 0: line = twin.line(stuckWriter % writers, book, seen % pages); break;
            case 1: line = twin.line(seen % writers, book, 0); break;
            case 2: line = twin.line(random.nextInt(writers), book, seen % pages); break;
            case 3: case 4:
                changing = random.nextInt(4) == 0 ? random.nextInt(writers) : changing % writers;
                line = twin.wouldMake(stuckWriter % writers, changing, book, seen % pages);
                break;
            default: line = twin.line(random.nextInt(writers), random.nextInt(books), random.nextInt(pages)); break;
        }
        if (random.nextInt(30) == 0) {
            line ^= 1 << random.nextInt(16);
        }
        return line >= 0 ? line & 65535 : random.nextInt(4);
    }

    private boolean tellTown(Map<String, Method> ofReal, Map<String, Method> ofTwin) throws ReflectiveOperationException {
        String text = story.size() > 0 && random.nextInt(3) == 0 ? spoil(townText()) : townText();
        Map<String, int[]> unused = new HashMap<>();
        boolean same = call("end", new Object[] {0}, ofReal, ofTwin, unused);
        for (int i = 0; same && i < text.length(); i += 20) {
            Object[] n = new Object[5];
            for (int k = 0; k < 5; k++) {
                int number = 0;
                for (int b = 0; b < 4; b++) {
                    int at = i + 4 * k + b;
                    number = number << 8 | (at < text.length() ? text.charAt(at) : random.nextInt(256));
                }
                n[k] = number;
            }
            same = call("feed", n, ofReal, ofTwin, unused);
        }
        story.add("\"" + text + "\"");
        return same && call("end", new Object[] {Math.min(400, text.length())}, ofReal, ofTwin, unused)
            && call("tell", new Object[0], ofReal, ofTwin, unused);
    }

    private String townText() {
        List<String> parts = new ArrayList<>();
        List<Integer> purses = new ArrayList<>();
        int writers = random.nextInt(8) == 0 ? random.nextInt(4) : 4 + random.nextInt(random.nextInt(4) == 0 ? 10 : 6);
        if (random.nextInt(4) == 0) {
            return chainText();
        }
        boolean deep = random.nextBoolean();
        boolean small = random.nextBoolean();
        for (int w = 0; w < writers; w++) {
            int purse = deep ? Math.min(99, 7 * w + random.nextInt(9)) : random.nextInt(100);
            String part = "writer " + purse + " " + habitText(small ? 4 : 16);
            int under = w == 0 ? 0 : deep && random.nextInt(4) > 0 ? w - 1 : random.nextInt(w);
            if (w > 0 && purses.get(under) < purse) {
                part += " under " + under;
            }
            purses.add(purse);
            parts.add(part);
        }
        int books = random.nextInt(random.nextInt(9) == 0 ? 6 : 3) + (random.nextInt(15) == 0 ? 0 : 1);
        for (int b = 0; b < books; b++) {
            StringBuilder part = new StringBuilder("book");
            int pages = random.nextInt(20) == 0 ? 9 : 1 + random.nextInt(random.nextInt(3) == 0 ? 8 : 3);
            for (int p = 0; p < pages; p++) {
                part.append(' ').append(random.nextInt(3) == 0 ? random.nextInt(65536) : random.nextInt(small ? 4 : 40));
            }
            parts.add(random.nextInt(parts.size() + 1), part.toString());
        }
        return String.join(random.nextBoolean() ? ";" : " ; ", parts);
    }

    /* All in one chain, most of whom change a sign of their own, so that lines can be one's own. */
    private String chainText() {
        StringBuilder text = new StringBuilder("book 0 " + random.nextInt(65536));
        for (int w = 0; w < 12; w++) {
            String habit = random.nextInt(12) == 0 ? habitText(16) : (random.nextInt(3) == 0 ? "flip " : "set ") + w;
            text.append(";writer ").append(w).append(' ').append(habit).append(w == 0 ? "" : " under " + (w - 1));
        }
        return text.toString();
    }

    private String habitText(int signs) {
        int a = random.nextInt(signs);
        int b = (a + 1 + random.nextInt(signs - 1)) % signs;
        switch (random.nextInt(8)) {
            case 0: return "plain";
            case 1: return "flip " + a;
            case 2: return "set " + a;
            case 3: return "clear " + a;
            case 4: return "turn " + Math.max(1, a);
            case 5: return "swap " + a + " " + b;
            case 6: return "copy " + a + " " + b;
            default: return "flip " + a;
        }
    }

    private String spoil(String text) {
        StringBuilder s = new StringBuilder(text.isEmpty() ? " " : text);
        for (int i = 1 + random.nextInt(2); i > 0; i--) {
            int at = random.nextInt(s.length());
            char sign = "0159 ;wrbuz{`/:\t\u0000\u00e9".charAt(random.nextInt(18));
            switch (random.nextInt(4)) {
                case 0: s.setCharAt(at, sign); break;
                case 1: s.insert(at, sign); break;
                case 2: s.setLength(Math.max(1, at)); break;
                default: s.insert(at, random.nextBoolean() ? "  " : "99999999999"); break;
            }
        }
        return s.toString();
    }
}
