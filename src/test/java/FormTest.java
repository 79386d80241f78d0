import java.io.IOException;
import java.lang.reflect.Array;
import java.lang.reflect.Constructor;
import java.lang.reflect.Field;
import java.lang.reflect.Method;
import java.lang.reflect.Modifier;
import java.nio.file.Files;
import java.nio.file.Path;
import java.util.ArrayList;
import java.util.Arrays;
import java.util.IdentityHashMap;
import java.util.List;
import java.util.Map;
import java.util.Set;
import java.util.TreeSet;
import java.util.regex.Matcher;
import java.util.regex.Pattern;

/** The rules of LANGUAGE.md that the class itself or its text shows; run from the project's folder. */
public final class FormTest {
    private static final String FACE = "int feed(int,int,int,int,int) int end(int) int tell() int hire(int,int) int sack(int)"
        + " int teach(int,int,int,int) int praise(int,int) int blame(int,int) int order(int,int) int day(int)"
        + " int store(int,int) int die(int) int see(int) int forget() int undo() int keep(int) int back(int)"
        + " int writer(int,int) int page(int,int) int line(int,int,int) int trace(int,int,int,int,int)"
        + " int own(int,int,int) int pay(int,int,int) int alike(int,int) int fits(int,int) int likeliest(int,int)"
        + " long matches(int,int) long trees(int,int) int under(int,int,int) int breaks(int,int,int)"
        + " long untangle(int,int,int,int) int tells(int,int,int) int slips(int,int,int,int,int)"
        + " int errors(int,int,int) int nested(int,int,int) int shared(int,int) int quarrel(int,int,int,int)"
        + " int served(int,int) int between(int,int,int) int count(int)";
    private static final String[] BARRED = {"\\bthrow\\b", "\\bthrows\\b", "\\btry\\b", "\\bcatch\\b", "\\bsynchronized\\b",
        "\\bassert\\b", "->", "::", "Exact\\b", "\\bimport\\b", "\\bpackage\\b", "static \\{", "\\bObject\\b", "@"};

    private FormTest() {
    }

    public static void main(String[] args) throws IOException, ReflectiveOperationException {
        String text = Files.readString(Path.of("src/main/java/BorrowedHands.java"));
        String code = text.replaceAll("(?s)/\\*.*?\\*/", "").replaceAll("//[^\n]*", "").replaceAll("\"[^\"]*\"", "\"\"");
        face();
        names();
        for (String word : BARRED) {
            no("barred: " + word, Pattern.compile(word).matcher(code).find());
        }
        no("signs beyond 127", text.chars().anyMatch(sign -> sign > 126));
        sizes(code);
        newObjects(code);
        room();
        Due.finish("FormTest");
    }

    private static void no(String what, boolean so) {
        Due.is(what, so ? 1 : 0, 0);
    }

    private static void face() {
        Class<?> it = BorrowedHands.class;
        no("not final", !Modifier.isFinal(it.getModifiers()) || !Modifier.isPublic(it.getModifiers()));
        Set<String> open = new TreeSet<>();
        for (Method m : it.getDeclaredMethods()) {
            if (!Modifier.isPrivate(m.getModifiers())) {
                List<String> types = new ArrayList<>();
                Arrays.stream(m.getParameterTypes()).forEach(type -> types.add(type.getName()));
                open.add(m.getReturnType().getName() + " " + m.getName() + "(" + String.join(",", types) + ")");
                no(m.getName() + " is not public, or static", (m.getModifiers() & (Modifier.PUBLIC | Modifier.STATIC)) != Modifier.PUBLIC);
            }
        }
        Set<String> due = new TreeSet<>(Arrays.asList(FACE.split("(?<=\\)) ")));
        no("the face is " + open, !open.equals(due));
        for (Field f : it.getDeclaredFields()) {
            no("open field " + f.getName(), !Modifier.isPrivate(f.getModifiers()) && !f.getName().equals("NONE"));
        }
        Constructor<?>[] made = it.getDeclaredConstructors();
        no("constructors", made.length != 1 || made[0].getParameterCount() != 0);
        for (Class<?> inside : it.getDeclaredClasses()) {
            no("not static: " + inside, !Modifier.isStatic(inside.getModifiers()) || Modifier.isPublic(inside.getModifiers()));
        }
    }

    private static List<Class<?>> classes() {
        List<Class<?>> all = new ArrayList<>(Arrays.asList(BorrowedHands.class.getDeclaredClasses()));
        all.add(BorrowedHands.class);
        return all;
    }

    private static void names() {
        Set<String> open = new TreeSet<>();
        for (Method m : BorrowedHands.class.getDeclaredMethods()) {
            if (Modifier.isPublic(m.getModifiers())) {
                open.add(m.getName());
            }
        }
        for (Class<?> c : classes()) {
            int fields = 0;
            for (Field f : c.getDeclaredFields()) {
                fields += Modifier.isStatic(f.getModifiers()) ? 0 : 1;
                no("static field that is not final", Modifier.isStatic(f.getModifiers()) && !Modifier.isFinal(f.getModifiers()));
            }
            no("fields of " + c + ": " + fields, fields > 20);
            for (Method m : c.getDeclaredMethods()) {
                no("named as a public one: " + m, !Modifier.isPublic(m.getModifiers()) && open.contains(m.getName()));
                no("parameters of " + m, m.getParameterCount() > 7);
            }
        }
        no("classes", classes().size() > 12);
    }

    private static void sizes(String code) {
        String[] lines = code.split("\n");
        Pattern head = Pattern.compile("^( {4}| {8})[a-z].*\\) \\{$");
        for (int i = 0; i < lines.length; i++) {
            Matcher m = head.matcher(lines[i]);
            if (m.matches()) {
                int end = i;
                while (!lines[end].equals(m.group(1) + "}")) {
                    end++;
                }
                no("long method: " + lines[i].trim(), end - i > 60);
            }
        }
    }

    /* No call makes an object: rows are made with the object and used again. */
    private static void newObjects(String code) {
        for (String line : code.split("\n")) {
            boolean field = line.matches(" +(private )?final .* = new .*;");
            boolean inConstructor = line.matches(" +(earlier|shelves)\\[i\\] = new Town\\(\\);");
            no("new: " + line.trim(), line.contains("new ") && !field && !inConstructor);
        }
    }

    /* Of 600,000 objects and 7,300,000 fields and elements a run has room for; one object needs few of them. */
    private static void room() throws ReflectiveOperationException {
        Map<Object, Boolean> met = new IdentityHashMap<>();
        long elements = weigh(new BorrowedHands(), met);
        no("objects: " + met.size(), met.size() > 300);
        no("elements: " + elements, elements > 12000);
    }

    private static long weigh(Object x, Map<Object, Boolean> met) throws ReflectiveOperationException {
        if (x == null || met.put(x, true) != null) {
            return 0;
        }
        long all = 0;
        if (x.getClass().isArray()) {
            all += Array.getLength(x);
            for (int i = 0; i < Array.getLength(x) && !x.getClass().getComponentType().isPrimitive(); i++) {
                all += weigh(Array.get(x, i), met);
            }
            return all;
        }
        for (Field f : x.getClass().getDeclaredFields()) {
            if (!Modifier.isStatic(f.getModifiers())) {
                f.setAccessible(true);
                all += 1 + (f.getType().isPrimitive() ? 0 : weigh(f.get(x), met));
            }
        }
        return all;
    }
}
