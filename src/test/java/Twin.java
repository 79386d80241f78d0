import java.util.ArrayDeque;
import java.util.ArrayList;
import java.util.Deque;
import java.util.HashSet;
import java.util.List;
import java.util.Set;
import java.util.TreeSet;
import java.util.regex.Matcher;
import java.util.regex.Pattern;

/** The document written a second time, slow and plain: it tries things out where the class reckons. */
final class Twin {
    private static final int NONE = -1;
    private static final List<String> KINDS = List.of("plain", "flip", "set", "clear", "turn", "swap", "copy");
    private static final int[] NUMBERS = {0, 1, 1, 1, 1, 2, 2};

    private record Habit(int kind, int a, int b) { }

    private record Sign(int value, int from, int by) { }

    private record Token(int place, String text) { }

    private static final class Fault extends Exception {
        private static final long serialVersionUID = 1L;
        final int number;

        Fault(int place, int why) {
            number = 8 * place + why;
        }
    }

    private static final class Person {
        int purse;
        Habit habit;
        int under = NONE;
        int fame;
        int coins;
        boolean mood;
        boolean dead;
        int[][] stock = new int[4][];

        Person copy() {
            Person p = new Person();
            p.purse = purse;
            p.habit = habit;
            p.under = under;
            p.fame = fame;
            p.coins = coins;
            p.mood = mood;
            p.dead = dead;
            for (int b = 0; b < 4; b++) {
                p.stock[b] = stock[b] == null ? null : stock[b].clone();
            }
            return p;
        }
    }

    private static final class State {
        List<Person> people = new ArrayList<>();
        List<List<Integer>> books = new ArrayList<>();
        List<Integer> seen = new ArrayList<>();
        int days;

        State copy() {
            State s = new State();
            for (Person p : people) {
                s.people.add(p.copy());
            }
            s.books.addAll(books);
            s.seen.addAll(seen);
            s.days = days;
            return s;
        }
    }

    private State now = new State();
    private final Deque<State> acts = new ArrayDeque<>();
    private final State[] shelves = new State[2];
    private final StringBuilder tape = new StringBuilder();

    public int feed(int a, int b, int c, int d, int e) {
        if (tape.length() > 380) {
            return NONE;
        }
        for (int n : new int[] {a, b, c, d, e}) {
            tape.append((char) (n >> 24 & 255)).append((char) (n >> 16 & 255)).append((char) (n >> 8 & 255)).append((char) (n & 255));
        }
        return tape.length();
    }

    public int end(int n) {
        if (n < 0 || n > tape.length()) {
            return NONE;
        }
        tape.setLength(n);
        return n;
    }

    public int tell() {
        String text = tape.toString();
        tape.setLength(0);
        try {
            now = new Reader(text).read();
        } catch (Fault f) {
            return -2 - f.number;
        }
        acts.clear();
        return now.people.size();
    }

    private static final class Reader {
        private final List<Token> tokens = new ArrayList<>();
        private final int length;
        private int at;
        private final State state = new State();

        Reader(String text) {
            length = text.length();
            Matcher m = Pattern.compile("[a-z]+|[0-9]+|[^ ]", Pattern.DOTALL).matcher(text);
            while (m.find()) {
                tokens.add(new Token(m.start(), m.group()));
            }
        }

        State read() throws Fault {
            if (tokens.isEmpty()) {
                return state;
            }
            part();
            while (at < tokens.size()) {
                if (!peek().equals(";")) {
                    throw new Fault(place(), 1);
                }
                at++;
                part();
            }
            return state;
        }

        private String peek() {
            return at < tokens.size() ? tokens.get(at).text() : "";
        }

        private int place() {
            return at < tokens.size() ? tokens.get(at).place() : length;
        }

        private void part() throws Fault {
            if (peek().equals("writer")) {
                person();
            } else if (peek().equals("book")) {
                book();
            } else {
                throw new Fault(place(), 1);
            }
        }

        private int number(int least, int most) throws Fault {
            if (!peek().matches("[0-9]+")) {
                throw new Fault(place(), 1);
            }
            java.math.BigInteger n = new java.math.BigInteger(peek());
            boolean small = n.compareTo(java.math.BigInteger.valueOf(least)) < 0;
            if (small || n.compareTo(java.math.BigInteger.valueOf(most)) > 0) {
                throw new Fault(place(), 2);
            }
            at++;
            return n.intValue();
        }

        private void person() throws Fault {
            if (state.people.size() == 12) {
                throw new Fault(place(), 3);
            }
            at++;
            Person p = new Person();
            p.purse = number(0, 99);
            int kind = KINDS.indexOf(peek());
            if (kind < 0) {
                throw new Fault(place(), 1);
            }
            at++;
            int a = NUMBERS[kind] > 0 ? number(kind == 4 ? 1 : 0, 15) : 0;
            int where = place();
            int b = NUMBERS[kind] > 1 ? number(0, 15) : 0;
            if (kind >= 5 && a == b) {
                throw new Fault(where, 2);
            }
            p.habit = new Habit(kind, a, b);
            if (peek().equals("under")) {
                at++;
                where = place();
                p.under = number(0, state.people.size() - 1);
                if (state.people.get(p.under).purse >= p.purse) {
                    throw new Fault(where, 4);
                }
            }
            state.people.add(p);
        }

        private void book() throws Fault {
            if (state.books.size() == 4) {
                throw new Fault(place(), 3);
            }
            at++;
            List<Integer> pages = new ArrayList<>();
            do {
                int where = place();
                int page = number(0, 65535);
                if (pages.size() == 8) {
                    throw new Fault(where, 3);
                }
                pages.add(page);
            } while (peek().matches("[0-9]+"));
            state.books.add(pages);
        }
    }

    private boolean isPerson(int w) {
        return w >= 0 && w < now.people.size();
    }

    private boolean isBook(int b) {
        return b >= 0 && b < now.books.size();
    }

    private boolean isPage(int b, int p) {
        return isBook(b) && p >= 0 && p < now.books.get(b).size();
    }

    private static boolean isRow(int n) {
        return n >= 0 && n < 65536;
    }

    private static boolean isHabit(int kind, int a, int b) {
        if (kind < 0 || kind > 6) {
            return false;
        }
        if (NUMBERS[kind] >= 1 && (a < (kind == 4 ? 1 : 0) || a > 15)) {
            return false;
        }
        return NUMBERS[kind] < 2 || b >= 0 && b <= 15 && b != a;
    }

    private static Habit habitOf(int kind, int a, int b) {
        return new Habit(kind, NUMBERS[kind] > 0 ? a : 0, NUMBERS[kind] > 1 ? b : 0);
    }

    private static List<Habit> allHabits() {
        Set<Habit> habits = new java.util.LinkedHashSet<>();
        for (int kind = 0; kind < 7; kind++) {
            for (int a = 0; a < 16; a++) {
                for (int b = 0; b < 16; b++) {
                    if (isHabit(kind, a, b)) {
                        habits.add(habitOf(kind, a, b));
                    }
                }
            }
        }
        if (habits.size() != 544) {
            throw new IllegalStateException("habits: " + habits.size());
        }
        return new ArrayList<>(habits);
    }

    private static Sign[] apply(Habit h, Sign[] ahead, int who) {
        Sign[] s = ahead.clone();
        switch (h.kind()) {
            case 1 -> s[h.a()] = new Sign(1 - s[h.a()].value(), s[h.a()].from(), who);
            case 2 -> s[h.a()] = new Sign(1, NONE, ahead[h.a()].value() == 1 ? ahead[h.a()].by() : who);
            case 3 -> s[h.a()] = new Sign(0, NONE, ahead[h.a()].value() == 0 ? ahead[h.a()].by() : who);
            case 4 -> {
                for (int k = 0; k < 16; k++) {
                    s[(k + h.a()) % 16] = ahead[k];
                }
            }
            case 5 -> {
                s[h.a()] = ahead[h.b()];
                s[h.b()] = ahead[h.a()];
            }
            case 6 -> {
                Sign from = ahead[h.a()];
                Sign to = ahead[h.b()];
                s[h.b()] = new Sign(from.value(), from.from(), from.value() == to.value() ? to.by() : who);
            }
            default -> { }
        }
        return s;
    }

    private static Sign[] signs(int row) {
        Sign[] s = new Sign[16];
        for (int k = 0; k < 16; k++) {
            s[k] = new Sign(row >> k & 1, k, NONE);
        }
        return s;
    }

    private static int row(Sign[] s) {
        int n = 0;
        for (int k = 15; k >= 0; k--) {
            n = 2 * n + s[k].value();
        }
        return n;
    }

    private static int apply(Habit h, int row) {
        return row(apply(h, signs(row), 0));
    }

    /* null: there is none. */
    private Integer lineOf(int w, int b, int p) {
        Person x = now.people.get(w);
        if (x.dead) {
            return x.stock[b] == null ? null : Integer.valueOf(x.stock[b][p]);
        }
        Integer below = x.under == NONE ? now.books.get(b).get(p) : lineOf(x.under, b, p);
        if (below == null || x.mood) {
            return below;
        }
        return apply(x.habit, below);
    }

    private Sign[] traced(int w, int row) {
        Person x = now.people.get(w);
        if (x.dead) {
            return null;
        }
        Sign[] below = x.under == NONE ? signs(row) : traced(x.under, row);
        return below == null || x.mood ? below : apply(x.habit, below, w);
    }

    private List<Integer> hands(int w) {
        List<Integer> list = new ArrayList<>();
        for (int at = w; at != NONE; at = now.people.get(at).under) {
            list.add(at);
        }
        return list;
    }

    private void act() {
        acts.addLast(now);
        now = now.copy();
        if (acts.size() > 10) {
            acts.removeFirst();
        }
    }

    public int hire(int writer, int under) {
        if (!isPerson(writer) || !isPerson(under)) {
            return NONE;
        }
        if (now.people.get(writer).dead || now.people.get(under).dead) {
            return -4;
        }
        if (now.people.get(writer).under == under) {
            return -2;
        }
        if (now.people.get(under).purse >= now.people.get(writer).purse) {
            return -3;
        }
        act();
        now.people.get(writer).under = under;
        return hands(writer).size();
    }

    public int sack(int writer) {
        if (!isPerson(writer)) {
            return NONE;
        }
        if (now.people.get(writer).dead) {
            return -4;
        }
        int was = now.people.get(writer).under;
        if (was == NONE) {
            return -2;
        }
        act();
        now.people.get(writer).under = NONE;
        return was;
    }

    public int teach(int writer, int kind, int a, int b) {
        if (!isPerson(writer) || !isHabit(kind, a, b)) {
            return NONE;
        }
        Habit old = now.people.get(writer).habit;
        if (now.people.get(writer).dead) {
            return -4;
        }
        if (old.equals(habitOf(kind, a, b))) {
            return -2;
        }
        act();
        now.people.get(writer).habit = habitOf(kind, a, b);
        return old.kind();
    }

    private int praiseDown(int w, int n) {
        Person x = now.people.get(w);
        int keeps = x.under == NONE ? n : n - n / 10;
        x.fame += keeps;
        if (x.under != NONE) {
            praiseDown(x.under, n / 10);
        }
        return keeps;
    }

    public int praise(int writer, int n) {
        if (!isPerson(writer) || n < 1 || n > 9999) {
            return NONE;
        }
        act();
        return praiseDown(writer, n);
    }

    public int blame(int writer, int n) {
        if (!isPerson(writer) || n < 1 || n > 9999) {
            return NONE;
        }
        act();
        now.people.get(writer).fame -= n;
        return now.people.get(writer).fame;
    }

    private int orderDown(int w, int n) {
        Person x = now.people.get(w);
        if (x.under == NONE) {
            x.coins += n;
            return n;
        }
        x.coins += (n + 1) / 2;
        return orderDown(x.under, n - (n + 1) / 2);
    }

    public int order(int writer, int n) {
        if (!isPerson(writer) || n < 1 || n > 9999) {
            return NONE;
        }
        act();
        return orderDown(writer, n);
    }

    public int day(int seed) {
        act();
        State before = acts.peekLast();
        long x = seed & 0xFFFFFFFFL;
        for (int w = 0; w < now.people.size(); w++) {
            Person p = now.people.get(w);
            if (p.under == NONE) {
                x = (x * 1103515245L + 12345L) & 0xFFFFFFFFL;
                p.mood = x / 65536 % 3 == 0;
            } else {
                p.mood = before.people.get(p.under).mood;
            }
        }
        now.days++;
        return count(7);
    }

    public int store(int writer, int book) {
        if (!isPerson(writer) || !isBook(book)) {
            return NONE;
        }
        if (now.people.get(writer).dead) {
            return -4;
        }
        int[] rows = new int[now.books.get(book).size()];
        for (int p = 0; p < rows.length; p++) {
            Integer line = lineOf(writer, book, p);
            if (line == null) {
                return -2;
            }
            rows[p] = line;
        }
        act();
        now.people.get(writer).stock[book] = rows;
        return rows.length;
    }

    public int die(int writer) {
        if (!isPerson(writer)) {
            return NONE;
        }
        if (now.people.get(writer).dead) {
            return -4;
        }
        act();
        now.people.get(writer).dead = true;
        int without = 0;
        for (int w = 0; w < now.people.size(); w++) {
            boolean lacks = false;
            for (int b = 0; b < now.books.size(); b++) {
                for (int p = 0; p < now.books.get(b).size(); p++) {
                    lacks |= lineOf(w, b, p) == null;
                }
            }
            without += lacks ? 1 : 0;
        }
        return without;
    }

    public int see(int line) {
        if (!isRow(line)) {
            return NONE;
        }
        if (now.seen.size() == 16) {
            return -3;
        }
        act();
        now.seen.add(line);
        return now.seen.size();
    }

    public int forget() {
        int were = now.seen.size();
        if (were == 0) {
            return NONE;
        }
        act();
        now.seen.clear();
        return were;
    }

    public int undo() {
        if (acts.isEmpty()) {
            return NONE;
        }
        now = acts.removeLast();
        return acts.size();
    }

    public int keep(int shelf) {
        if (shelf != 0 && shelf != 1) {
            return NONE;
        }
        shelves[shelf] = now.copy();
        return now.people.size();
    }

    public int back(int shelf) {
        if (shelf != 0 && shelf != 1) {
            return NONE;
        }
        if (shelves[shelf] == null) {
            return -2;
        }
        now = shelves[shelf].copy();
        acts.clear();
        return now.people.size();
    }

    public int writer(int writer, int what) {
        if (!isPerson(writer)) {
            return Integer.MIN_VALUE;
        }
        Person x = now.people.get(writer);
        int bits = 0;
        switch (what) {
            case 0: return x.purse;
            case 1: return x.habit.kind();
            case 2: return NUMBERS[x.habit.kind()] > 0 ? x.habit.a() : NONE;
            case 3: return NUMBERS[x.habit.kind()] > 1 ? x.habit.b() : NONE;
            case 4: return x.under;
            case 5: return hands(writer).size();
            case 6: return hands(writer).get(hands(writer).size() - 1);
            case 7: return x.fame;
            case 8: return x.coins;
            case 9: return x.mood ? 1 : 0;
            case 10: return x.dead ? 1 : 0;
            case 11:
                for (int b = 0; b < 4; b++) {
                    bits += x.stock[b] == null ? 0 : 1 << b;
                }
                return bits;
            case 12:
                for (int w = 0; w < now.people.size(); w++) {
                    bits += now.people.get(w).under == writer ? 1 << w : 0;
                }
                return bits;
            default: return Integer.MIN_VALUE;
        }
    }

    public int page(int book, int page) {
        return isPage(book, page) ? now.books.get(book).get(page) : NONE;
    }

    public int line(int writer, int book, int page) {
        if (!isPerson(writer) || !isPage(book, page)) {
            return NONE;
        }
        Integer line = lineOf(writer, book, page);
        return line == null ? -2 : line;
    }

    public int trace(int writer, int book, int page, int sign, int what) {
        if (!isPerson(writer) || !isPage(book, page) || sign < 0 || sign > 15 || what != 0 && what != 1) {
            return -3;
        }
        Sign[] s = traced(writer, page(book, page));
        if (s == null) {
            return -2;
        }
        return what == 0 ? s[sign].from() : s[sign].by();
    }

    public int own(int writer, int book, int page) {
        if (!isPerson(writer) || !isPage(book, page)) {
            return NONE;
        }
        Sign[] s = traced(writer, page(book, page));
        if (s == null) {
            return -2;
        }
        int bits = 0;
        for (int k = 0; k < 16; k++) {
            bits += s[k].by() == writer ? 1 << k : 0;
        }
        return bits;
    }

    public int pay(int writer, int book, int page) {
        if (!isPerson(writer) || !isPage(book, page)) {
            return NONE;
        }
        Sign[] s = traced(writer, page(book, page));
        List<Integer> hands = hands(writer);
        for (int n = 0; s != null && n < hands.size(); n++) {
            int his = 0;
            for (Sign sign : s) {
                his += hands.subList(0, n + 1).contains(sign.by()) ? 1 : 0;
            }
            if (his >= 8) {
                return n;
            }
        }
        return -2;
    }

    private int through(int w, int row) {
        Person x = now.people.get(w);
        int below = x.under == NONE ? row : through(x.under, row);
        return x.mood ? below : apply(x.habit, below);
    }

    public int alike(int writer, int other) {
        if (!isPerson(writer) || !isPerson(other)) {
            return NONE;
        }
        for (int row = 0; row < 65536; row += 97) {
            if (through(writer, row) != through(other, row)) {
                return 0;
            }
        }
        for (int row = 1; row < 65536; row = 2 * row) {
            if (through(writer, row) != through(other, row) || through(writer, 65535 - row) != through(other, 65535 - row)) {
                return 0;
            }
        }
        return 1;
    }

    /* Each {place, line}, rising. */
    private List<int[]> allLines() {
        List<int[]> all = new ArrayList<>();
        for (int w = 0; w < now.people.size(); w++) {
            for (int b = 0; b < now.books.size(); b++) {
                for (int p = 0; p < now.books.get(b).size(); p++) {
                    Integer line = lineOf(w, b, p);
                    if (line != null) {
                        all.add(new int[] {32 * w + 8 * b + p, line});
                    }
                }
            }
        }
        return all;
    }

    public int fits(int line, int k) {
        if (!isRow(line) || k < NONE) {
            return NONE;
        }
        List<int[]> all = allLines();
        all.removeIf(l -> l[1] != line);
        if (k == NONE) {
            return all.size();
        }
        return k < all.size() ? all.get(k)[0] : -2;
    }

    public int likeliest(int line, int what) {
        if (!isRow(line) || what != 0 && what != 1) {
            return NONE;
        }
        int[] best = null;
        for (int[] l : allLines()) {
            if (best == null || Integer.bitCount(l[1] ^ line) < Integer.bitCount(best[1] ^ line)) {
                best = l;
            }
        }
        if (best == null) {
            return -2;
        }
        return what == 0 ? best[0] : Integer.bitCount(best[1] ^ line);
    }

    public long matches(int writer, int line) {
        if (!isPerson(writer) || !isRow(line)) {
            return NONE;
        }
        long bits = 0;
        for (int[] l : allLines()) {
            bits += l[0] / 32 == writer && l[1] == line ? 1L << l[0] % 32 : 0;
        }
        return bits;
    }

    public long trees(int book, int page) {
        if (!isPage(book, page) || now.seen.isEmpty() || now.seen.size() > now.people.size()) {
            return NONE;
        }
        return treesFrom(book, page, 0);
    }

    private long treesFrom(int book, int page, int w) {
        if (w == now.seen.size()) {
            return 1;
        }
        return Integer.bitCount(under(book, page, w)) * treesFrom(book, page, w + 1);
    }

    public int under(int book, int page, int writer) {
        int seen = now.seen.size();
        if (!isPage(book, page) || seen > now.people.size() || writer < 0 || writer >= seen) {
            return NONE;
        }
        Habit habit = now.people.get(writer).habit;
        int bits = apply(habit, page(book, page)) == now.seen.get(writer) ? 4096 : 0;
        for (int w = 0; w < seen; w++) {
            boolean makes = apply(habit, now.seen.get(w)) == now.seen.get(writer);
            bits += makes && now.people.get(w).purse < now.people.get(writer).purse ? 1 << w : 0;
        }
        return bits;
    }

    /* Who can have been under him from one place to another, as bits. */
    private int able(int writer, int book, int from, int to) {
        Habit habit = now.people.get(writer).habit;
        int bits = 0;
        for (int who = 0; who <= 12; who++) {
            boolean can = who == 12 || isPerson(who) && now.people.get(who).purse < now.people.get(writer).purse;
            for (int i = from; can && i <= to; i++) {
                int p = i % now.books.get(book).size();
                Integer row = who == 12 ? Integer.valueOf(page(book, p)) : lineOf(who, book, p);
                can = row != null && apply(habit, row) == now.seen.get(i);
            }
            bits += can ? 1 << who : 0;
        }
        return bits;
    }

    /* What his habit makes of another one's line, or of the page for 12; below 0: of none. */
    int wouldMake(int writer, int who, int book, int page) {
        if (!isPerson(writer) || !isPage(book, page)) {
            return NONE;
        }
        Integer row = isPerson(who) ? lineOf(who, book, page) : Integer.valueOf(page(book, page));
        return row == null ? NONE : apply(now.people.get(writer).habit, row);
    }

    /* The starts of the fewest stretches, each break as late as can be; null: it can't be. */
    private List<Integer> starts(int writer, int book) {
        int n = now.seen.size();
        int[] fewest = new int[n + 1];
        int[] next = new int[n + 1];
        for (int i = n - 1; i >= 0; i--) {
            fewest[i] = 1000;
            for (int to = i; to < n; to++) {
                if (able(writer, book, i, to) != 0 && fewest[to + 1] + 1 <= fewest[i]) {
                    fewest[i] = fewest[to + 1] + 1;
                    next[i] = to + 1;
                }
            }
        }
        if (fewest[0] >= 1000) {
            return null;
        }
        List<Integer> starts = new ArrayList<>();
        for (int i = 0; i < n; i = next[i]) {
            starts.add(i);
        }
        return starts;
    }

    public int breaks(int writer, int book, int what) {
        if (!isPerson(writer) || !isBook(book) || what != 0 && what != 1 || now.seen.isEmpty()) {
            return -3;
        }
        List<Integer> starts = starts(writer, book);
        if (starts == null) {
            return -2;
        }
        if (what == 0) {
            return starts.size() - 1;
        }
        return starts.size() > 1 ? starts.get(1) : NONE;
    }

    public long untangle(int one, int other, int book, int n) {
        if (!isPerson(one) || !isPerson(other) || one == other || !isBook(book)) {
            return NONE;
        }
        long ways = 0;
        int pages = now.books.get(book).size();
        for (int ofOne = 0; ofOne < 1 << now.seen.size(); ofOne++) {
            if (Integer.bitCount(ofOne) != n) {
                continue;
            }
            boolean so = true;
            for (int i = 0; so && i < now.seen.size(); i++) {
                so = now.seen.get(i).equals(lineOf((ofOne >> i & 1) == 1 ? one : other, book, i % pages));
            }
            ways += so ? 1 : 0;
        }
        return ways;
    }

    public int tells(int book, int set, int what) {
        if (!isBook(book) || set < 0 || set >= 1 << now.people.size() || what != 0 && what != 1) {
            return NONE;
        }
        if (Integer.bitCount(set) < 2) {
            return NONE;
        }
        for (int size = 0; size <= 8; size++) {
            for (int pages = 0; pages < 1 << now.books.get(book).size(); pages++) {
                if (Integer.bitCount(pages) == size && toldApart(book, set, pages)) {
                    return what == 0 ? size : pages;
                }
            }
        }
        return -2;
    }

    private boolean toldApart(int book, int set, int pages) {
        Set<String> unlike = new HashSet<>();
        for (int w = 0; w < now.people.size(); w++) {
            StringBuilder lines = new StringBuilder();
            for (int p = 0; p < now.books.get(book).size(); p++) {
                if ((pages >> p & 1) == 1) {
                    lines.append(lineOf(w, book, p)).append(' ');
                }
            }
            if ((set >> w & 1) == 1) {
                unlike.add(lines.toString());
            }
        }
        return unlike.size() == Integer.bitCount(set);
    }

    public int slips(int writer, int book, int page, int line, int what) {
        if (!isPerson(writer) || !isPage(book, page) || !isRow(line) || what < 0 || what > 4) {
            return -3;
        }
        if (traced(writer, 0) == null) {
            return -2;
        }
        int found = 0;
        int[] first = new int[5];
        for (int w : new TreeSet<>(hands(writer))) {
            Person x = now.people.get(w);
            Habit own = x.habit;
            for (Habit h : allHabits()) {
                x.habit = h;
                if (!x.mood && !h.equals(own) && lineOf(writer, book, page) == line) {
                    if (found == 0) {
                        int numbers = NUMBERS[h.kind()];
                        first = new int[] {0, w, h.kind(), numbers > 0 ? h.a() : NONE, numbers > 1 ? h.b() : NONE};
                    }
                    found++;
                }
            }
            x.habit = own;
        }
        if (what == 0) {
            return found;
        }
        return found == 0 ? -2 : first[what];
    }

    public int errors(int book, int page, int sign) {
        if (!isPage(book, page) || sign < 0 || sign > 15) {
            return NONE;
        }
        int bits = 0;
        for (int w = 0; w < now.people.size(); w++) {
            Integer line = lineOf(w, book, page);
            bits += line != null && (line >> sign & 1) != (page(book, page) >> sign & 1) ? 1 << w : 0;
        }
        return bits;
    }

    public int nested(int book, int page, int what) {
        if (!isPage(book, page) || what < 0 || what > 3) {
            return NONE;
        }
        int clashes = 0;
        Set<Integer> sets = new TreeSet<>();
        for (int k = 0; k < 16; k++) {
            int one = errors(book, page, k);
            sets.add(one);
            for (int l = 0; l < k; l++) {
                int other = errors(book, page, l);
                clashes += (one & other) != 0 && (one & ~other) != 0 && (other & ~one) != 0 ? 1 : 0;
            }
        }
        sets.remove(0);
        switch (what) {
            case 0: return clashes == 0 ? 1 : 0;
            case 1: return clashes;
            case 2: return sets.size();
            default: return longest(sets, 0);
        }
    }

    private static int longest(Set<Integer> sets, int above) {
        int most = 0;
        for (int set : sets) {
            if (set != above && (above & ~set) == 0) {
                most = Math.max(most, 1 + longest(sets, set));
            }
        }
        return most;
    }

    public int shared(int one, int other) {
        if (!isPerson(one) || !isPerson(other)) {
            return NONE;
        }
        List<Integer> both = hands(one);
        both.retainAll(hands(other));
        return both.isEmpty() ? -2 : both.get(0);
    }

    public int quarrel(int one, int other, int book, int page) {
        if (!isPerson(one) || !isPerson(other) || !isPage(book, page)) {
            return NONE;
        }
        Integer a = lineOf(one, book, page);
        Integer b = lineOf(other, book, page);
        return a == null || b == null ? -2 : a ^ b;
    }

    /* Line by line to whoever can still have one: the hands lie in trees, so no order is better. */
    public int served(int set, int n) {
        if (set < 0 || set >= 1 << now.people.size() || n < 0 || n > 99) {
            return NONE;
        }
        int[] left = new int[12];
        for (int w = 0; w < now.people.size(); w++) {
            left[w] = now.people.get(w).dead ? 0 : now.people.get(w).purse;
        }
        int all = 0;
        for (int round = 0; round < n; round++) {
            for (int w = 0; w < now.people.size(); w++) {
                List<Integer> hands = hands(w);
                if ((set >> w & 1) == 1 && hands.stream().allMatch(h -> left[h] > 0)) {
                    hands.forEach(h -> left[h]--);
                    all++;
                }
            }
        }
        return all;
    }

    public int between(int writer, int book, int k) {
        if (!isPerson(writer) || !isBook(book) || k < 0 || now.seen.isEmpty()) {
            return NONE;
        }
        List<Integer> starts = starts(writer, book);
        if (starts == null || k >= starts.size()) {
            return -2;
        }
        int to = k + 1 < starts.size() ? starts.get(k + 1) - 1 : now.seen.size() - 1;
        return able(writer, book, starts.get(k), to);
    }

    public int count(int what) {
        int sum = 0;
        for (int w = 0; w < now.people.size(); w++) {
            Person x = now.people.get(w);
            switch (what) {
                case 3 -> sum += x.under == NONE ? 1 << w : 0;
                case 4 -> sum = Math.max(sum, hands(w).size());
                case 5 -> sum += x.fame;
                case 6 -> sum += x.coins;
                case 7 -> sum += x.mood ? 1 << w : 0;
                case 8 -> sum += x.dead ? 1 << w : 0;
                default -> { }
            }
        }
        switch (what) {
            case 0: return now.people.size();
            case 1: return now.books.size();
            case 2: return now.books.stream().mapToInt(List::size).sum();
            case 3: case 4: case 5: case 6: case 7: case 8: return sum;
            case 9: return now.seen.size();
            case 10: return acts.size();
            case 11: return tape.length();
            case 12: return (shelves[0] == null ? 0 : 1) + (shelves[1] == null ? 0 : 2);
            case 13: return now.days;
            default: return NONE;
        }
    }
}
