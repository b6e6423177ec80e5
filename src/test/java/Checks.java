import java.lang.reflect.InvocationTargetException;
import java.lang.reflect.Method;
import java.lang.reflect.Modifier;
import java.util.Arrays;
import java.util.Comparator;
import java.util.function.IntUnaryOperator;

/** What the tests of single calls share: the object under test, the count of answers, and short ways to fill the object. */
abstract class Checks {
    static final int MIN = Integer.MIN_VALUE;
    static final int MAX = Integer.MAX_VALUE;

    private static int passed = 0;
    private static int failed = 0;
    static String running = "";
    static RewritingTermination x;

    /** Runs the methods that are not private and take nothing, each with a new object. */
    static void runAll(Class<?> tests) throws IllegalAccessException {
        Method[] all = tests.getDeclaredMethods();
        Arrays.sort(all, Comparator.comparing(Method::getName));
        for (Method m : all) {
            if (!Modifier.isPrivate(m.getModifiers()) && m.getParameterCount() == 0) {
                running = m.getName();
                fresh();
                run(m);
            }
        }
    }

    static void end(String tests) {
        System.out.println(tests + ": " + passed + " passed, " + failed + " failed");
        if (failed != 0) System.exit(1);
    }

    private static void run(Method test) throws IllegalAccessException {
        try {
            test.invoke(null);
        } catch (InvocationTargetException thrown) {
            wrong("threw " + thrown.getCause());
            thrown.getCause().printStackTrace(System.out);
        }
    }

    static void fresh() { x = new RewritingTermination(); }

    static void fresh(int letters) {
        fresh();
        x.reset(letters);
    }

    static void wrong(String what) {
        failed++;
        System.out.println(running + ": " + what);
    }

    static void due(String call, long got, long want) {
        if (got == want) passed++;
        else wrong(call + " answered " + got + ", due is " + want);
    }

    static void due(String call, String got, String want) {
        if (got.equals(want)) passed++;
        else wrong(call + " is " + got + ", due is " + want);
    }

    /** The same answer for each of some arguments. */
    static void dueEach(String call, IntUnaryOperator asked, long want, int... arguments) {
        for (int argument : arguments) due(call + " with " + argument, asked.applyAsInt(argument), want);
    }

    static void type(String text) {
        for (char c : text.toCharArray()) x.append(c, 1);
    }

    static int rule(String text) {
        type(text);
        return x.addRule();
    }

    static void rules(String... texts) {
        for (String text : texts) due("rule " + text, rule(text) < 0 ? 0 : 1, 1);
    }

    static int string(String text) {
        type(text);
        return x.setString();
    }

    static String string() {
        StringBuilder s = new StringBuilder();
        for (int i = 0; i < x.stringLength(); i++) s.append((char) ('a' + x.stringLetter(i)));
        return s.toString();
    }

    /** From aafff come 5 * 5 * 2 * 2 * 2 = 200 strings, the last one eeeee after eleven steps. */
    static void rulesFor200Strings() {
        x.reset(6);
        rules("aafff>bafff", "a>b", "b>c", "c>d", "d>e", "f>e");
    }

    static void dueString(String want) { due("the string", string(), want); }

    static void dueWeights(int... want) {
        for (int k = 0; k < want.length; k++) due("weight(" + k + ")", x.weight(k), want[k]);
    }

    static void dueLevels(int... want) {
        for (int k = 0; k < want.length; k++) due("level(" + k + ")", x.level(k), want[k]);
    }

    static void weights(int... all) {
        for (int k = 0; k < all.length; k++) due("setWeight(" + k + ")", x.setWeight(k, all[k]) < 0 ? 0 : 1, 1);
    }

    static void levels(int... all) {
        for (int k = 0; k < all.length; k++) due("setLevel(" + k + ")", x.setLevel(k, all[k]) < 0 ? 0 : 1, 1);
    }
}
