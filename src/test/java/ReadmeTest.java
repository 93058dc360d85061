import java.io.File;
import java.io.IOException;
import java.lang.reflect.InvocationTargetException;
import java.lang.reflect.Method;
import java.nio.file.Files;
import java.nio.file.Path;
import java.util.ArrayList;
import java.util.Arrays;
import java.util.List;
import java.util.Set;
import java.util.TreeSet;
import java.util.regex.Matcher;
import java.util.regex.Pattern;

/** The calls of README.md's example, as they stand there, answer as it says. */
public final class ReadmeTest {
    private static final Checks CHECKS = new Checks("ReadmeTest");
    private static final String START = "UsageProofs p = new UsageProofs();";
    private static final Pattern CALL = Pattern.compile("p\\.(\\w+)\\(([^)]*)\\); +// (-?\\d+)(: .*)?");
    private static final Pattern TYPED = Pattern.compile(": \"(.*)\".*");

    public static void main(String[] args) throws ReflectiveOperationException, IOException {
        List<String> readme = Files.readAllLines(Path.of("README.md"));
        List<String> example = example(readme);
        CHECKS.holds("README.md has an example", !example.isEmpty() && example.get(0).equals(START));
        testExample(example);
        testTable(readme);
        testNames(String.join("\n", readme));
        CHECKS.end();
    }

    /** The lines of all blocks of Java, without the empty ones. */
    private static List<String> example(List<String> readme) {
        List<String> lines = new ArrayList<>();
        boolean inside = false;
        for (String line : readme) {
            if (line.startsWith("```")) {
                inside = line.equals("```java");
            } else if (inside && !line.isEmpty()) {
                lines.add(line);
            }
        }
        return lines;
    }

    private static void testExample(List<String> example) throws ReflectiveOperationException {
        UsageProofs p = new UsageProofs();
        Set<String> called = new TreeSet<>();
        for (String line : example) {
            Matcher call = CALL.matcher(line);
            if (call.matches()) {
                called.add(call.group(1));
                CHECKS.same(line, Long.parseLong(call.group(3)), answer(p, call.group(1), call.group(2)));
                testTyped(line, call);
            } else if (line.equals(START)) {
                p = new UsageProofs();
            } else {
                CHECKS.holds("neither a call with its answer nor a new object: " + line, false);
            }
        }
        CHECKS.alike("methods in the example", names().toString(), called.toString());
    }

    /** Where the example tells the text of the bytes that are typed, they are those. */
    private static void testTyped(String line, Matcher call) {
        Matcher typed = TYPED.matcher(call.group(4) == null ? "" : call.group(4));
        if (call.group(1).equals("type") && typed.matches()) {
            String[] arguments = call.group(2).split(", ");
            long packed = number(arguments[0]);
            int size = (int) number(arguments[1]);
            StringBuilder text = new StringBuilder();
            for (int i = size - 1; i >= 0; i--) {
                text.append((char) (packed >>> 8 * i & 255));
            }
            CHECKS.alike("bytes of " + line, text.toString(), typed.group(1));
        }
    }

    private static long answer(UsageProofs p, String name, String list) throws ReflectiveOperationException {
        String[] words = list.isEmpty() ? new String[0] : list.split(", ");
        for (Method m : UsageProofs.class.getMethods()) {
            if (m.getName().equals(name) && m.getParameterCount() == words.length && isOwn(m)) {
                return ((Integer) invoke(p, m, words)).longValue();
            }
        }
        throw new NoSuchMethodException(name + " with " + words.length + " parameters");
    }

    private static Object invoke(UsageProofs p, Method m, String[] words) throws ReflectiveOperationException {
        Object[] values = new Object[words.length];
        for (int i = 0; i < words.length; i++) {
            long value = number(words[i]);
            boolean wide = m.getParameterTypes()[i] == long.class;
            CHECKS.holds(words[i] + " fits in " + m, wide || !words[i].endsWith("L"));
            if (wide) {
                values[i] = value;
            } else {
                values[i] = Math.toIntExact(value);
            }
        }
        try {
            return m.invoke(p, values);
        } catch (InvocationTargetException e) {
            throw new IllegalStateException(m + " threw " + e.getCause(), e);
        }
    }

    private static long number(String word) {
        String bare = word.endsWith("L") ? word.substring(0, word.length() - 1) : word;
        long value = bare.startsWith("0x") ? Long.parseUnsignedLong(bare.substring(2), 16) : Long.parseLong(bare);
        // javac takes no literal beyond an int without an L behind it.
        return word.endsWith("L") ? value : Math.toIntExact(value);
    }

    private static boolean isOwn(Method m) {
        return m.getDeclaringClass() == UsageProofs.class;
    }

    private static Set<String> names() {
        Set<String> names = new TreeSet<>();
        for (Method m : UsageProofs.class.getMethods()) {
            if (isOwn(m)) {
                names.add(m.getName());
            }
        }
        return names;
    }

    /** Each method has a row in the table, with as many parameters as it takes. */
    private static void testTable(List<String> readme) {
        Set<String> told = new TreeSet<>();
        for (String line : readme) {
            Matcher row = Pattern.compile("\\| `(\\w+)\\(([^)]*)\\)` \\|.*").matcher(line);
            if (row.matches()) {
                told.add(row.group(1) + " " + (row.group(2).isEmpty() ? 0 : row.group(2).split(", ").length));
            }
        }
        Set<String> due = new TreeSet<>();
        for (Method m : UsageProofs.class.getMethods()) {
            if (isOwn(m)) {
                due.add(m.getName() + " " + m.getParameterCount());
            }
        }
        CHECKS.alike("rows of the table", due.toString(), told.toString());
    }

    /** README.md names the script and each test and each class. */
    private static void testNames(String readme) {
        CHECKS.holds(".ci/run can be run", new File(".ci/run").canExecute() && readme.contains("\n.ci/run\n"));
        String[] files = new File("src/test/java").list();
        Arrays.sort(files);
        for (String file : files) {
            String name = file.replace(".java", "");
            CHECKS.holds("README.md tells of " + name, !name.endsWith("Test") || readme.contains("`" + name + "`"));
        }
        for (Class<?> c : UsageProofs.class.getDeclaredClasses()) {
            CHECKS.holds("README.md tells of " + c, readme.contains("`" + c.getSimpleName() + "`"));
        }
    }
}
