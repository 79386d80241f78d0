import java.lang.reflect.InvocationTargetException;
import java.lang.reflect.Method;
import java.util.ArrayList;
import java.util.Collections;
import java.util.Comparator;
import java.util.IdentityHashMap;
import java.util.List;
import java.util.Map;
import java.util.TreeSet;
import java.util.function.IntFunction;
import java.util.regex.Matcher;
import java.util.regex.Pattern;

/**
 * What the tests of edges share. A method named promise5.. is a test of one sentence of promise 5, or of
 * the terms it leans on; a refused call is made on one object and not on another, and both must answer
 * what Look asks alike.
 */
final class Edge {
    static final int NONE = BorrowedHands.NONE;
    static final int MIN = Integer.MIN_VALUE;
    static final int MAX = Integer.MAX_VALUE;
    private static final Pattern NAME = Pattern.compile("promise([0-9]+)[A-Z].*");
    /* Beside the next ones below and above: numbers whose shifts or products wrap to small ones. */
    private static final int[] FAR = {32, 33, 64, 256, 65536, 1 << 27, 1 << 28, 1 << 29, 1 << 30, MAX, MIN, MIN + 1};
    private static final Map<Story, String> LOOKS = new IdentityHashMap<>();
    private static String running = "";

    private Edge() {
    }

    static void runAll(Class<?> tests, int firstPromise, int lastPromise) {
        List<Method> found = new ArrayList<>();
        TreeSet<Integer> missing = new TreeSet<>();
        for (int promise = firstPromise; promise <= lastPromise; promise++) {
            missing.add(promise);
        }
        for (Method m : tests.getDeclaredMethods()) {
            if (NAME.matcher(m.getName()).matches() && m.getParameterCount() == 0) {
                found.add(m);
                missing.remove(promiseOf(m));
            }
        }
        found.sort(Comparator.comparing(Edge::promiseOf).thenComparing(Method::getName));
        for (Method m : found) {
            runOne(m);
        }
        Due.is("promises without a test of an edge: " + missing, missing.size(), 0);
        Due.finish(tests.getSimpleName() + " (" + found.size() + " edges)");
    }

    private static int promiseOf(Method m) {
        Matcher name = NAME.matcher(m.getName());
        return name.matches() ? Integer.parseInt(name.group(1)) : 0;
    }

    private static void runOne(Method m) {
        running = m.getName();
        try {
            m.setAccessible(true);
            m.invoke(null);
        } catch (InvocationTargetException thrown) {
            Due.is(running + " threw " + thrown.getCause(), 1, 0);
        } catch (IllegalAccessException shut) {
            Due.is(running + " can't be run", 1, 0);
        }
    }

    static void is(String call, long got, long due) {
        Due.is(running + ": " + call, got, due);
    }

    static BorrowedHands made(Story story) {
        BorrowedHands x = new BorrowedHands();
        story.goesOn(x);
        return x;
    }

    /** The answer is as due, and what Look asks behind it is answered as if it had not been made. */
    static void refused(String call, Story story, Call made, long due) {
        is(call, made.on(made(story)), due);
        alike(call + ", what other calls answer behind it", story, story.and(made));
    }

    static void refusedEach(String call, Story story, int[] wrong, IntFunction<Call> made, long due) {
        for (int number : wrong) {
            refused(call + " " + number, story, made.apply(number), due);
        }
    }

    /** What Look asks behind two stories is answered alike. */
    static void alike(String what, Story one, Story other) {
        String due = LOOKS.computeIfAbsent(one, Look::at);
        String got = Look.at(other);
        if (!got.equals(due)) {
            int at = 0;
            while (at < Math.min(got.length(), due.length()) && got.charAt(at) == due.charAt(at)) {
                at++;
            }
            int from = Math.max(0, due.lastIndexOf(' ', at));
            System.out.println(running + ": due was .." + cut(due, from) + ".., there was .." + cut(got, from) + "..");
            is(what + " (alike: 1)", 0, 1);
        }
    }

    private static String cut(String text, int from) {
        return text.substring(Math.min(from, text.length()), Math.min(from + 60, text.length()));
    }

    /** The numbers just below the least and above the most, and far ones. */
    static int[] outside(int least, int most) {
        TreeSet<Integer> all = new TreeSet<>();
        all.add(least - 1);
        all.add(most + 1);
        for (int number : FAR) {
            if (number < least || number > most) {
                all.add(number);
            }
        }
        return all.stream().mapToInt(Integer::intValue).toArray();
    }

    /** Those of outside() that are not below the least. */
    static int[] above(int most) {
        TreeSet<Integer> all = new TreeSet<>();
        for (int number : outside(0, most)) {
            if (number > most) {
                all.add(number);
            }
        }
        return all.stream().mapToInt(Integer::intValue).toArray();
    }

    static String many(String part, int times) {
        return String.join(";", Collections.nCopies(times, part));
    }

    /** Calls on a new object. */
    interface Story {
        void goesOn(BorrowedHands x);

        default Story and(Call more) {
            return x -> {
                goesOn(x);
                more.on(x);
            };
        }
    }

    /** A call, or some, and the answer of the last. */
    interface Call {
        long on(BorrowedHands x);
    }
}
