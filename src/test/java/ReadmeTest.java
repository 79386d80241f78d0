import java.io.IOException;
import java.lang.reflect.Method;
import java.nio.file.Files;
import java.nio.file.Path;
import java.util.ArrayList;
import java.util.List;
import java.util.regex.Matcher;
import java.util.regex.Pattern;
import java.util.stream.Stream;

/** README.md's examples give the answers that stand behind them; run from the project's folder. */
public final class ReadmeTest {
    private static final Pattern BLOCK = Pattern.compile("(?s)```java\n(.*?)```");
    private static final Pattern MADE = Pattern.compile("BorrowedHands x = new BorrowedHands\\(\\);");
    private static final Pattern TOLD = Pattern.compile("tell\\(x, \"([^\"]*)\"\\); +// (-?[0-9]+)\\b.*");
    private static final Pattern CALLED = Pattern.compile("x\\.([a-z]+)\\(([^)]*)\\); +// (-?[0-9]+)\\b.*");

    private ReadmeTest() {
    }

    public static void main(String[] args) throws IOException, ReflectiveOperationException {
        String readme = Files.readString(Path.of("README.md"));
        String own = Files.readString(Path.of("src/test/java/ReadmeTest.java"));
        int examples = 0;
        Matcher block = BLOCK.matcher(readme);
        while (block.find()) {
            String code = block.group(1);
            if (code.startsWith("static ")) {
                Due.is("the function of README.md stands in this test", own.contains(code.indent(4)) ? 1 : 0, 1);
            } else {
                runExample(code);
                examples++;
            }
        }
        Due.is("examples in README.md", examples, 2);
        testsAreNamed(readme);
        Due.finish("ReadmeTest");
    }

    /* README.md shows this function; main looks whether both are the same. */
    static int tell(BorrowedHands x, String text) {
        for (int from = 0; from < text.length(); from += 20) {
            int[] n = new int[5];
            for (int k = 0; k < 20; k++) {
                int sign = from + k < text.length() ? text.charAt(from + k) : 0;
                n[k / 4] = n[k / 4] << 8 | sign;
            }
            x.feed(n[0], n[1], n[2], n[3], n[4]);
        }
        x.end(text.length());
        return x.tell();
    }

    private static void runExample(String code) throws ReflectiveOperationException {
        BorrowedHands x = null;
        for (String line : code.split("\n")) {
            Matcher told = TOLD.matcher(line);
            Matcher called = CALLED.matcher(line);
            if (MADE.matcher(line).matches()) {
                x = new BorrowedHands();
            } else if (x != null && told.matches()) {
                Due.is(line, tell(x, told.group(1)), Long.parseLong(told.group(2)));
            } else if (x != null && called.matches()) {
                Due.is(line, call(x, called.group(1), called.group(2)), Long.parseLong(called.group(3)));
            } else {
                Due.is("README.md has a line that is no call with its answer: " + line, 1, 0);
            }
        }
    }

    private static long call(BorrowedHands x, String name, String numbers) throws ReflectiveOperationException {
        List<Object> given = new ArrayList<>();
        for (String number : numbers.split(", *")) {
            if (!number.isEmpty()) {
                given.add(Integer.decode(number));
            }
        }
        for (Method m : BorrowedHands.class.getMethods()) {
            if (m.getName().equals(name) && m.getParameterCount() == given.size()) {
                return ((Number) m.invoke(x, given.toArray())).longValue();
            }
        }
        throw new NoSuchMethodException(name + " with " + given.size() + " numbers");
    }

    private static void testsAreNamed(String readme) throws IOException {
        List<Path> tests;
        try (Stream<Path> files = Files.list(Path.of("src/test/java"))) {
            tests = files.toList();
        }
        for (Path test : tests) {
            String name = test.getFileName().toString().replace(".java", "");
            Due.is("README.md names " + name, readme.contains("`" + name + "`") ? 1 : 0, 1);
        }
    }
}
