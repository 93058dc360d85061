import java.io.IOException;
import java.lang.reflect.Array;
import java.lang.reflect.Constructor;
import java.lang.reflect.Field;
import java.lang.reflect.Method;
import java.lang.reflect.Modifier;
import java.nio.charset.StandardCharsets;
import java.nio.file.Files;
import java.nio.file.Path;
import java.util.ArrayList;
import java.util.Arrays;
import java.util.IdentityHashMap;
import java.util.List;
import java.util.Map;
import java.util.Set;
import java.util.TreeSet;
import java.util.regex.Matcher;
import java.util.regex.Pattern;

/** The public face of the document, and the rules of LANGUAGE.md that can be seen from outside or in the source. */
public final class FaceTest {
    private static final Checks CHECKS = new Checks("FaceTest");
    private static final Set<String> FACE = new TreeSet<>(Arrays.asList(
            "int type(long,int)", "int read()", "int place()", "int def(int,int)", "int thing(int,int)",
            "int analyse()", "int row(int,int,int,int)", "int plant(int,int,int,int,int)", "int check()",
            "int argument(int,int)", "int run(int,int,int)", "int value()", "int count(int)", "int told(int)"));

    public static void main(String[] args) throws Exception {
        testFace();
        testInnerClasses();
        testStaticFields();
        testSource();
        testRoom();
        testOpenCalls();
        CHECKS.end();
    }

    private static String signature(Method m) {
        StringBuilder text = new StringBuilder(m.getReturnType().getName()).append(' ').append(m.getName()).append('(');
        for (int i = 0; i < m.getParameterCount(); i++) {
            text.append(i > 0 ? "," : "").append(m.getParameterTypes()[i].getName());
        }
        return text.append(')').toString();
    }

    private static void testFace() {
        Class<?> c = UsageProofs.class;
        CHECKS.holds("public and final", Modifier.isPublic(c.getModifiers()) && Modifier.isFinal(c.getModifiers()));
        CHECKS.holds("no package", c.getPackageName().isEmpty());
        Set<String> open = new TreeSet<>();
        for (Method m : c.getDeclaredMethods()) {
            if (!Modifier.isPrivate(m.getModifiers()) && !m.isSynthetic()) {
                open.add(signature(m));
            }
        }
        CHECKS.holds("methods " + open, open.equals(FACE));
        Set<String> constants = new TreeSet<>();
        for (Field f : c.getDeclaredFields()) {
            if (!Modifier.isPrivate(f.getModifiers()) && !f.isSynthetic()) {
                constants.add(f.getName());
            }
        }
        CHECKS.holds("constants " + constants, constants.equals(new TreeSet<>(Arrays.asList("NONE", "BAD", "FULL"))));
        Constructor<?>[] makers = c.getDeclaredConstructors();
        CHECKS.holds("one public constructor without parameters", makers.length == 1
                && makers[0].getParameterCount() == 0 && Modifier.isPublic(makers[0].getModifiers()));
    }

    private static List<Class<?>> classes() {
        List<Class<?>> all = new ArrayList<>();
        all.add(UsageProofs.class);
        all.addAll(Arrays.asList(UsageProofs.class.getDeclaredClasses()));
        return all;
    }

    private static void testInnerClasses() {
        Set<String> names = new TreeSet<>();
        for (String s : FACE) {
            names.add(s.substring(4, s.indexOf('(')));
        }
        CHECKS.holds("at most twelve classes", classes().size() <= 12);
        for (Class<?> c : classes()) {
            boolean own = c != UsageProofs.class;
            CHECKS.holds(c + " is static", !own || Modifier.isStatic(c.getModifiers()));
            CHECKS.holds(c + " has no class inside", !own || c.getDeclaredClasses().length == 0);
            int fields = 0;
            for (Field f : c.getDeclaredFields()) {
                fields += Modifier.isStatic(f.getModifiers()) || f.isSynthetic() ? 0 : 1;
            }
            CHECKS.holds(c + " has " + fields + " fields", fields <= 20);
            for (Method m : c.getDeclaredMethods()) {
                CHECKS.holds(m + " has seven parameters at most", m.getParameterCount() <= 7);
                CHECKS.holds(m + " has a public one's name", !own || !names.contains(m.getName()));
                CHECKS.holds(m + " is made by the compiler", !m.isSynthetic());
            }
        }
    }

    private static void testStaticFields() {
        for (Class<?> c : classes()) {
            for (Field f : c.getDeclaredFields()) {
                if (Modifier.isStatic(f.getModifiers())) {
                    CHECKS.holds(f + " is final", Modifier.isFinal(f.getModifiers()));
                    CHECKS.holds(f + " is a number", f.getType() == int.class || f.getType() == long.class);
                }
            }
        }
    }

    private static void testSource() throws IOException {
        byte[] bytes = Files.readAllBytes(Path.of("src/main/java/UsageProofs.java"));
        String source = new String(bytes, StandardCharsets.ISO_8859_1);
        for (byte b : bytes) {
            CHECKS.holds("source is plain", b == 10 || b >= 32 && b < 127);
        }
        String code = source.replaceAll("(?s)/\\*.*?\\*/", " ").replaceAll("//[^\n]*", " ")
                .replaceAll("'(\\\\.|[^'\\\\])'", "'c'").replaceAll("\"(\\\\.|[^\"\\\\])*\"", "\"\"");
        for (String word : Arrays.asList("throw", "throws", "try", "catch", "finally", "synchronized", "assert",
                "protected", "package", "Thread", "Object", "hashCode", "toString", "instanceof", "static\\s*\\{",
                "->", "::", "\"", "\\w+Exact", "interface", "volatile", "transient", "native", "var")) {
            String bounded = word.matches("\\w+") ? "\\b" + word + "\\b" : word;
            CHECKS.holds("the source has " + word, !Pattern.compile(bounded).matcher(code).find());
        }
        Matcher imports = Pattern.compile("import ([^;]*);").matcher(code);
        while (imports.find()) {
            CHECKS.same("import of " + imports.group(1), 0, "java.util.Arrays".compareTo(imports.group(1)));
        }
        Matcher calls = Pattern.compile("\\b(Arrays|System|Math)\\.(\\w+)").matcher(code);
        while (calls.find()) {
            boolean listed = Arrays.asList("fill", "arraycopy", "min", "max", "Arrays").contains(calls.group(2));
            CHECKS.holds("the library's " + calls.group(), listed);
        }
        testMethodLengths(code);
    }

    private static void testMethodLengths(String code) {
        int start = -1;
        int number = 0;
        int depthAtStart = 0;
        int depth = 0;
        for (String line : code.split("\n", -1)) {
            number++;
            boolean opens = line.matches("\\s+[\\w\\[\\] ]+\\([^;]*\\) \\{\\s*") && !line.matches("\\s+(for|if|while|switch|\\}).*");
            if (opens && start < 0) {
                start = number;
                depthAtStart = depth;
            }
            for (char c : line.toCharArray()) {
                depth += c == '{' ? 1 : c == '}' ? -1 : 0;
            }
            if (start >= 0 && depth == depthAtStart) {
                CHECKS.holds("the method at line " + start + " is too long", number - start < 60);
                start = -1;
            }
        }
        CHECKS.same("brackets", 0, depth);
    }

    /** Objects and elements that one new object holds; calls must make none, so this is all there is. */
    private static void testRoom() throws IllegalAccessException {
        UsageProofs p = Checks.of("f a=if a<1 then (a,a) else f (a-1);g=(\\x.\\y.x) 1 2;");
        for (int i = 0; i < 200; i++) {
            p.analyse();
            p.run(0, 10000, 3);
            p.run(1, 10000, 0);
        }
        Map<Object, Boolean> seen = new IdentityHashMap<>();
        long elements = count(p, seen);
        System.out.println("FaceTest: an object holds " + seen.size() + " objects with " + elements + " elements");
        CHECKS.holds("objects " + seen.size(), seen.size() < 200);
        CHECKS.holds("elements " + elements, elements < 400000);
        java.lang.management.ThreadMXBean bean = java.lang.management.ManagementFactory.getThreadMXBean();
        if (bean instanceof com.sun.management.ThreadMXBean) {
            com.sun.management.ThreadMXBean counting = (com.sun.management.ThreadMXBean) bean;
            long id = Thread.currentThread().getId();
            long before = counting.getThreadAllocatedBytes(id);
            useOften(p);
            long made = counting.getThreadAllocatedBytes(id) - before;
            CHECKS.holds("calls make " + made + " bytes", made < 100000);
        }
    }

    private static void useOften(UsageProofs p) {
        for (int i = 0; i < 500; i++) {
            p.type(0x6620613d613b2020L, 8);
            p.read();
            p.analyse();
            p.check();
            p.thing(0, 3);
            p.run(0, 100, i & 3);
        }
    }

    private static long count(Object object, Map<Object, Boolean> seen) throws IllegalAccessException {
        if (object == null || seen.put(object, true) != null) {
            return 0;
        }
        if (object.getClass().isArray()) {
            return Array.getLength(object);
        }
        long elements = 0;
        for (Field f : object.getClass().getDeclaredFields()) {
            if (!Modifier.isStatic(f.getModifiers())) {
                elements++;
                f.setAccessible(true);
                if (!f.getType().isPrimitive()) {
                    elements += count(f.get(object), seen);
                }
            }
        }
        return elements;
    }

    /** The deepest texts must do with 300 open calls; a thread with little room is a rough gauge of that. */
    private static void testOpenCalls() throws InterruptedException {
        String brackets = "f=" + Checks.repeat("(", 40) + "1" + Checks.repeat(")", 40) + ";";
        String pairs = "f=" + Checks.repeat("1*1+1 1(1,", 40) + "1" + Checks.repeat(")", 40) + ";";
        int[] answers = new int[2];
        Thread narrow = new Thread(null, () -> {
            answers[0] = Checks.read(new UsageProofs(), brackets);
            answers[1] = Checks.read(new UsageProofs(), pairs);
        }, "narrow", 192L << 10);
        narrow.start();
        narrow.join();
        CHECKS.same("40 brackets", 1, answers[0]);
        CHECKS.same("40 pairs", 1, answers[1]);
    }
}
