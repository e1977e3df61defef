import java.io.IOException;
import java.lang.reflect.Constructor;
import java.lang.reflect.Field;
import java.lang.reflect.Method;
import java.lang.reflect.Modifier;
import java.nio.file.Files;
import java.nio.file.Path;
import java.util.ArrayList;
import java.util.Collections;
import java.util.List;
import java.util.regex.Matcher;
import java.util.regex.Pattern;

/** The public face to the letter, and those rules of the language that a look at the file can tell. */
public final class FaceTest {
    private static final Path SOURCE = Path.of("src/main/java/MendDesk.java");
    private static final String[] FACE = {
        "int part(int, int, boolean)", "int link(int, int, boolean)", "int guard(int, boolean)",
        "int version(int, int)", "int hole(int, int, int, int)", "int chained(int, int, int, int)",
        "int wake(int, boolean)", "int chain(int)", "int told(int, int)", "int risk()", "int taken()",
        "int way(int, int)", "int bestGuard()", "int mend(int, int, int, int, int, int)",
        "int quarrel(int, int, int, int)", "int riskWith(int)", "int sound(int)", "int gain(int, int)",
        "int next(int)", "int plan(int, int)", "int week(int)", "int moved()", "int make(int)", "int count(int)",
    };
    private static final String[] CONSTANTS = {"BAD -1", "NOT -2", "FULL -3", "NONE -4", "CAST -13"};
    private static final String[] FORBIDDEN = {
        "throw", "throws", "try", "catch", "finally", "synchronized", "assert", "package", "->", "::",
        "\\w+Exact", "@\\w+", "Random", "Thread", "hashCode", "toString",
    };

    private static int wrong = 0;

    private static void check(boolean holds, String what) {
        if (holds) return;
        wrong++;
        System.out.println("not so: " + what);
    }

    public static void main(String[] args) throws IOException, IllegalAccessException {
        checkMethods();
        checkConstants();
        checkConstructor();
        checkClassesInside();
        checkSource();
        checkSections();
        System.out.println(wrong == 0 ? "the face is as due" : wrong + " faults of the face");
        if (wrong != 0) System.exit(1);
    }

    private static void checkMethods() {
        List<String> seen = new ArrayList<>();
        List<String> privates = new ArrayList<>();
        for (Method m : MendDesk.class.getDeclaredMethods()) {
            if (Modifier.isPrivate(m.getModifiers())) {
                privates.add(m.getName());
                continue;
            }
            check(Modifier.isPublic(m.getModifiers()) && !Modifier.isStatic(m.getModifiers()), m + " is of the face");
            List<String> types = new ArrayList<>();
            for (Class<?> type : m.getParameterTypes()) types.add(type.getName());
            seen.add(m.getReturnType().getName() + " " + m.getName() + "(" + String.join(", ", types) + ")");
        }
        List<String> due = new ArrayList<>(List.of(FACE));
        Collections.sort(due);
        Collections.sort(seen);
        check(seen.equals(due), "the methods are " + due + ", but " + seen);
        for (String row : FACE) {
            String name = row.substring(4, row.indexOf('('));
            check(!privates.contains(name), "no private method is called " + name);
        }
    }

    private static void checkConstants() throws IllegalAccessException {
        List<String> seen = new ArrayList<>();
        for (Field f : MendDesk.class.getDeclaredFields()) {
            boolean isStatic = Modifier.isStatic(f.getModifiers());
            check(!isStatic || Modifier.isFinal(f.getModifiers()), f + " is final");
            if (Modifier.isPrivate(f.getModifiers())) continue;
            check(isStatic && f.getType() == int.class, f + " is of the face");
            seen.add(f.getName() + " " + f.getInt(null));
        }
        List<String> due = new ArrayList<>(List.of(CONSTANTS));
        Collections.sort(due);
        Collections.sort(seen);
        check(seen.equals(due), "the constants are " + due + ", but " + seen);
    }

    private static void checkConstructor() {
        check(Modifier.isPublic(MendDesk.class.getModifiers()), "the class is public");
        check(Modifier.isFinal(MendDesk.class.getModifiers()), "the class is final");
        Constructor<?>[] all = MendDesk.class.getDeclaredConstructors();
        check(all.length == 1 && all[0].getParameterCount() == 0 && Modifier.isPublic(all[0].getModifiers()),
            "there is the one constructor");
    }

    private static void checkClassesInside() {
        Class<?>[] inside = MendDesk.class.getDeclaredClasses();
        check(inside.length <= 12, "there are at most twelve classes");
        for (Class<?> c : inside) {
            check(Modifier.isStatic(c.getModifiers()), c + " is static");
            check(!Modifier.isPublic(c.getModifiers()) && !Modifier.isProtected(c.getModifiers()), c + " is hidden");
            check(c.getDeclaredFields().length <= 20, c + " has at most twenty fields");
            for (Method m : c.getDeclaredMethods()) {
                check(m.getParameterCount() <= 7, m + " takes at most seven");
            }
        }
    }

    private static void checkSource() throws IOException {
        String code = Files.readString(SOURCE).replaceAll("(?s)/\\*.*?\\*/", "").replaceAll("//[^\n]*", "");
        for (String word : FORBIDDEN) {
            String bounded = Character.isLetter(word.charAt(0)) ? "\\b" + word + "\\b" : word;
            Matcher found = Pattern.compile(bounded).matcher(code);
            check(!found.find(), "the program is without " + word);
        }
        Matcher imports = Pattern.compile("import ([\\w.*]+);").matcher(code);
        List<String> allowed = List.of("java.util.Arrays", "java.util.ArrayList", "java.util.List", "java.util.Iterator");
        while (imports.find()) check(allowed.contains(imports.group(1)), "it imports no " + imports.group(1));
    }

    /** The document names the line that stands ahead of each group of calls, and the calls of it. */
    private static void checkSections() throws IOException {
        String source = Files.readString(SOURCE);
        int first = source.indexOf("// ---- 1 parts and holes\n");
        int second = source.indexOf("// ---- 2 mends\n");
        check(first >= 0 && second >= 0, "both groups of calls have their line");
        boolean isFirstGroup = true;
        for (String row : FACE) {
            String name = row.substring(4, row.indexOf('('));
            if (name.equals("mend")) isFirstGroup = false;
            int at = source.indexOf("public int " + name + "(");
            check(at > first && (at < second) == isFirstGroup, name + " stands behind the line of its group");
        }
    }
}
