import java.lang.reflect.Constructor;
import java.lang.reflect.Field;
import java.lang.reflect.Method;
import java.lang.reflect.Modifier;
import java.nio.file.Files;
import java.nio.file.Path;
import java.util.ArrayList;
import java.util.List;
import java.util.Set;
import java.util.TreeSet;
import java.util.regex.Matcher;
import java.util.regex.Pattern;

/** The class has the face of the document and nothing more, and keeps to what of LANGUAGE.md can be looked up. */
public final class FaceTests {
    private static final Path SOURCE = Path.of("src/main/java/RewritingTermination.java");
    private static final Path DOCUMENT = Path.of("../shared/DOC.md");
    private static final int MOST_LINES = 60;

    private static int passed = 0;
    private static int failed = 0;

    public static void main(String[] args) throws Exception {
        faceIsTheDocuments();
        classesInsideAreHidden();
        staticFieldsAreConstants();
        wordsOutsideTheLanguage();
        methodsAreShort();
        System.out.println("FaceTests: " + passed + " passed, " + failed + " failed");
        if (failed != 0) System.exit(1);
    }

    private static void check(String what, boolean holds) {
        if (holds) {
            passed++;
        } else {
            failed++;
            System.out.println("FaceTests: " + what);
        }
    }

    private static void faceIsTheDocuments() throws Exception {
        Set<String> due = new TreeSet<>();
        boolean inside = false;
        for (String line : Files.readAllLines(DOCUMENT)) {
            if (line.startsWith("public final class")) inside = true;
            else if (line.startsWith("}")) break;
            else if (inside) due.add(line.trim().replace(";", ""));
        }
        Set<String> got = new TreeSet<>();
        for (Constructor<?> c : RewritingTermination.class.getDeclaredConstructors()) {
            got.add("public RewritingTermination()");
            check("the constructor", Modifier.isPublic(c.getModifiers()) && c.getParameterCount() == 0);
        }
        for (Field f : RewritingTermination.class.getDeclaredFields()) {
            if (Modifier.isPrivate(f.getModifiers())) continue;
            Object value = f.get(null);
            String text = value.equals(Long.MIN_VALUE) ? "Long.MIN_VALUE" : value.toString();
            got.add(Modifier.toString(f.getModifiers()) + " " + f.getType() + " " + f.getName() + " = " + text);
        }
        for (Method m : RewritingTermination.class.getDeclaredMethods()) {
            if (Modifier.isPrivate(m.getModifiers())) continue;
            List<String> parameters = new ArrayList<>();
            for (Class<?> type : m.getParameterTypes()) parameters.add(type.getName());
            got.add(Modifier.toString(m.getModifiers()) + " " + m.getReturnType() + " " + m.getName() + "(" + String.join(", ", parameters) + ")");
        }
        Set<String> dueWithoutNames = new TreeSet<>();
        for (String line : due) dueWithoutNames.add(line.replaceAll("(int|long) \\w+([,)])", "$1$2"));
        check("face: document " + dueWithoutNames + ", class " + got, dueWithoutNames.equals(got));
        check("the document's face was found", due.size() > 50);
        check("public and final", Modifier.toString(RewritingTermination.class.getModifiers()).equals("public final"));
    }

    private static void classesInsideAreHidden() {
        Set<String> face = new TreeSet<>();
        for (Method m : RewritingTermination.class.getMethods()) {
            if (m.getDeclaringClass() == RewritingTermination.class) face.add(m.getName());
        }
        Class<?>[] inside = RewritingTermination.class.getDeclaredClasses();
        check("at most twelve classes", inside.length + 1 <= 12);
        for (Class<?> c : inside) {
            int how = c.getModifiers();
            check(c + " is hidden and static", !Modifier.isPublic(how) && !Modifier.isProtected(how) && Modifier.isStatic(how));
            for (Method m : c.getDeclaredMethods()) check(m + " bears a name of the face", !face.contains(m.getName()));
        }
        for (Method m : RewritingTermination.class.getDeclaredMethods()) {
            check(m + " bears a name of the face", Modifier.isPublic(m.getModifiers()) || !face.contains(m.getName()));
        }
    }

    private static void staticFieldsAreConstants() {
        List<Class<?>> all = new ArrayList<>(List.of(RewritingTermination.class.getDeclaredClasses()));
        all.add(RewritingTermination.class);
        Set<Class<?>> constants = Set.of(int.class, long.class, boolean.class, char.class, String.class);
        for (Class<?> c : all) {
            int fields = 0;
            for (Field f : c.getDeclaredFields()) {
                if (!Modifier.isStatic(f.getModifiers())) fields++;
                else check(f + " is a constant", Modifier.isFinal(f.getModifiers()) && constants.contains(f.getType()));
            }
            check(c + " has at most twenty fields", fields <= 20);
            for (Method m : c.getDeclaredMethods()) {
                check(m + " takes at most seven parameters", m.getParameterCount() <= 7);
                check(m + " was made by the compiler", !m.isSynthetic());
            }
        }
    }

    private static String code() throws Exception {
        return Files.readString(SOURCE).replaceAll("(?s)/\\*.*?\\*/", "").replaceAll("//[^\n]*", "");
    }

    private static void wordsOutsideTheLanguage() throws Exception {
        String code = code();
        for (String word : new String[] {"throw", "try", "catch", "finally", "synchronized", "assert", "package", "import static",
            "native", "volatile", "transient", "Exact", "equals", "hashCode", "toString", "NaN", "Float", "Double", "System.out"}) {
            check("the source says " + word, !Pattern.compile("(?<!\\w)" + Pattern.quote(word) + "(?!\\w)").matcher(code).find());
        }
        for (String sign : new String[] {"->", "::", "@", "\"", "while (true)", "for (;;)"}) {
            check("the source says " + sign, !code.contains(sign));
        }
        Matcher calls = Pattern.compile("\\b(Math|Arrays|System|Integer|Long)\\.(\\w+)").matcher(code);
        Set<String> allowed = Set.of("Math.min", "Math.max", "Arrays.fill", "System.arraycopy", "Long.MIN_VALUE");
        while (calls.find()) check("the source uses " + calls.group(), allowed.contains(calls.group()));
        Matcher imports = Pattern.compile("import ([\\w.]+);").matcher(code);
        while (imports.find()) check("the source imports " + imports.group(1), imports.group(1).equals("java.util.Arrays"));
    }

    private static void methodsAreShort() throws Exception {
        int from = -1;
        int indent = 0;
        List<String> lines = Files.readAllLines(SOURCE);
        for (int i = 0; i < lines.size(); i++) {
            String line = lines.get(i);
            int spaces = line.length() - line.stripLeading().length();
            if (from < 0 && line.endsWith(") {") && (spaces == 4 || spaces == 8) && !line.strip().matches("(if|for|while|switch|\\}).*")) {
                from = i;
                indent = spaces;
            } else if (from >= 0 && spaces == indent && line.strip().equals("}")) {
                check("the method at line " + (from + 1) + " is too long", i - from + 1 <= MOST_LINES);
                from = -1;
            }
        }
        check("the last method ends", from < 0);
    }
}
