import java.io.IOException;
import java.lang.reflect.InvocationTargetException;
import java.lang.reflect.Method;
import java.lang.reflect.Modifier;
import java.nio.file.Files;
import java.nio.file.Path;
import java.util.ArrayList;
import java.util.HashMap;
import java.util.List;
import java.util.Map;
import java.util.Set;
import java.util.TreeSet;
import java.util.function.IntSupplier;
import java.util.regex.Matcher;
import java.util.regex.Pattern;

/** What README.md shows of the class's use: each call, its answer, the limits and the list of tests. */
public final class ReadmeTest {
    private static final Path README = Path.of("README.md");
    private static final Path TESTS = Path.of("src/test/java");
    private static final String MAKING = "MendDesk desk = new MendDesk();";
    private static final Pattern ROW = Pattern.compile(
        "(?:int (\\w+) = )?desk\\.(\\w+)\\(([^()]*)\\);\\s+// (-?\\d+)(?:: .*)?");
    private static final Pattern CONSTANT = Pattern.compile("`([A-Z]+)` \\((-?\\d+)\\)");
    private static final Pattern LIMITS = Pattern.compile(
        "up to (\\d+) parts, (\\d+) holes, (\\d+) mends and (\\d+) quarrels");

    private static final Map<String, Integer> names = new HashMap<>();
    private static final Set<String> shown = new TreeSet<>();
    private static final MendDesk desk = new MendDesk();
    private static int wrong = 0;

    private static void check(boolean holds, String what) {
        if (holds) return;
        wrong++;
        System.out.println("README.md: " + what);
    }

    public static void main(String[] args) throws IOException, ReflectiveOperationException {
        List<String> lines = Files.readAllLines(README);
        List<String> rows = javaRows(lines);
        check(!rows.isEmpty() && rows.get(0).equals(MAKING), "the first row makes a desk");
        for (int r = 1; r < rows.size(); r++) runRow(rows.get(r));
        checkAllShown();
        String text = String.join(" ", lines);
        checkConstants(text);
        checkOffsets(text);
        checkLimits(text);
        checkTestList(text);
        System.out.println(wrong == 0 ? "README.md is as the class answers" : wrong + " faults of README.md");
        if (wrong != 0) System.exit(1);
    }

    private static List<String> javaRows(List<String> lines) {
        List<String> rows = new ArrayList<>();
        boolean inside = false;
        for (String line : lines) {
            if (line.startsWith("```")) inside = line.equals("```java");
            else if (inside && !line.isBlank()) rows.add(line);
        }
        check(!inside, "each block has an end");
        return rows;
    }

    private static void runRow(String row) throws ReflectiveOperationException {
        Matcher parts = ROW.matcher(row);
        if (!parts.matches()) {
            check(false, "not a call with its answer: " + row);
            return;
        }
        Method method = methodOf(parts.group(2));
        if (method == null) {
            check(false, "no such call: " + row);
            return;
        }
        shown.add(method.getName());
        int got = call(method, parts.group(3), row);
        int told = Integer.parseInt(parts.group(4));
        check(got == told, "answered " + got + ": " + row);
        if (parts.group(1) != null) check(names.put(parts.group(1), got) == null, "a name twice: " + row);
    }

    private static Method methodOf(String name) {
        for (Method m : MendDesk.class.getDeclaredMethods()) {
            if (m.getName().equals(name) && Modifier.isPublic(m.getModifiers())) return m;
        }
        return null;
    }

    private static int call(Method method, String given, String row)
            throws IllegalAccessException, InvocationTargetException {
        String[] words = given.isEmpty() ? new String[0] : given.split(", ");
        Class<?>[] types = method.getParameterTypes();
        check(words.length == types.length, "it takes " + types.length + ": " + row);
        Object[] values = new Object[types.length];
        for (int k = 0; k < types.length; k++) values[k] = valueOf(k < words.length ? words[k] : "", types[k], row);
        return (Integer) method.invoke(desk, values);
    }

    private static Object valueOf(String word, Class<?> type, String row) {
        if (type == boolean.class) {
            check(word.equals("true") || word.equals("false"), "'" + word + "' is neither true nor false: " + row);
            return word.equals("true");
        }
        if (word.matches("-?\\d{1,9}")) return Integer.parseInt(word);
        check(names.containsKey(word), "'" + word + "' has no value: " + row);
        return names.getOrDefault(word, 0);
    }

    private static void checkAllShown() {
        for (Method m : MendDesk.class.getDeclaredMethods()) {
            if (!Modifier.isPublic(m.getModifiers())) continue;
            check(shown.contains(m.getName()), m.getName() + " is not shown");
        }
    }

    private static void checkConstants(String text) throws ReflectiveOperationException {
        Set<String> told = new TreeSet<>();
        Matcher found = CONSTANT.matcher(text);
        while (found.find()) {
            told.add(found.group(1));
            int value = MendDesk.class.getField(found.group(1)).getInt(null);
            check(value == Integer.parseInt(found.group(2)), found.group(1) + " is " + value);
        }
        check(told.equals(Set.of("BAD", "NOT", "FULL", "NONE", "CAST")), "it tells the values of " + told);
    }

    /** A mend that saves nothing shows by how much make lifts its answer. */
    private static void checkOffsets(String text) {
        MendDesk plain = new MendDesk();
        plain.part(1, 1, true);
        plain.mend(0, 2, 1, -1, 0, 0);
        check(text.contains("`gain` refuses with " + plain.gain(1, 0)), "gain refuses with " + plain.gain(1, 0));
        check(text.contains("`make` answers " + plain.make(0) + " more"), "make answers " + plain.make(0) + " more");
    }

    private static void checkLimits(String text) {
        Matcher limits = LIMITS.matcher(text);
        if (!limits.find()) {
            check(false, "it tells no limits");
            return;
        }
        MendDesk full = new MendDesk();
        full.part(1, 1, true);
        full.part(1, 1, true);
        fill("parts", limits.group(1), 2, () -> full.part(1, 1, true));
        fill("holes", limits.group(2), 0, () -> full.hole(0, 0, 1, 1));
        fill("mends", limits.group(3), 0, () -> full.mend(0, 1, 1, -1, 0, 0));
        fill("quarrels", limits.group(4), 0, () -> full.quarrel(0, 1, 1, 2));
    }

    private static void fill(String what, String told, int there, IntSupplier add) {
        int most = Integer.parseInt(told);
        for (int n = there; n < most; n++) check(add.getAsInt() >= 0, "there is no room for " + told + " " + what);
        check(add.getAsInt() == MendDesk.FULL, "there is room for more than " + told + " " + what);
    }

    private static void checkTestList(String text) throws IOException {
        Set<String> told = new TreeSet<>();
        Matcher found = Pattern.compile("`(\\w+Test)`").matcher(text);
        while (found.find()) told.add(found.group(1));
        Set<String> there = new TreeSet<>();
        try (var files = Files.newDirectoryStream(TESTS, "*.java")) {
            for (Path file : files) there.add(file.getFileName().toString().replace(".java", ""));
        }
        check(told.equals(there), "it lists " + told + ", there are " + there);
        check(Files.isExecutable(Path.of(".ci/run")), ".ci/run can be run");
    }
}
