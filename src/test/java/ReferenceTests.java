import java.lang.reflect.Method;
import java.util.ArrayList;
import java.util.Arrays;
import java.util.List;
import java.util.Random;

/** Makes the same random calls on the class and on the slow Reference, and compares every answer. */
public final class ReferenceTests {
    private static final int RUNS = Integer.getInteger("runs", 400);
    private static final int CALLS = 512;

    private final Random random;
    private final RewritingTermination real = new RewritingTermination();
    private final Reference slow = new Reference();
    private final List<String> log = new ArrayList<>();
    private static final Method[] FACE = RewritingTermination.class.getDeclaredMethods();
    private static final java.util.Map<String, Method> REAL = new java.util.TreeMap<>();
    private static final java.util.Map<String, Method> SLOW = new java.util.TreeMap<>();
    private int letters = 3;
    private boolean wrong = false;
    private boolean arrays = false;

    private ReferenceTests(long seed) { random = new Random(seed); }

    public static void main(String[] args) throws Exception {
        for (Method m : FACE) if (java.lang.reflect.Modifier.isPublic(m.getModifiers())) REAL.put(m.getName(), m);
        for (Method m : Reference.class.getDeclaredMethods()) if (REAL.containsKey(m.getName())) SLOW.put(m.getName(), m);
        int failed = 0;
        java.util.Map<String, Integer> kinds = new java.util.TreeMap<>();
        for (int run = 0; run < RUNS; run++) {
            ReferenceTests test = new ReferenceTests(run);
            test.run(kinds);
            if (test.wrong) {
                failed++;
                System.out.println("ReferenceTests run " + run + ":");
                for (String line : test.log) System.out.println("  " + line);
            }
        }
        if (Boolean.getBoolean("kinds")) kinds.forEach((k, c) -> System.out.println(k + " " + c));
        System.out.println("ReferenceTests: " + (RUNS - failed) + " passed, " + failed + " failed");
        if (failed != 0) System.exit(1);
    }

    private void run(java.util.Map<String, Integer> kinds) throws Exception {
        List<String> names = new ArrayList<>(REAL.keySet());
        int style = random.nextInt(6);
        arrays = random.nextInt(3) == 0;
        int made = 0;
        while (made < CALLS && !wrong) {
            int pick = random.nextInt(100);
            if (arrays && pick < 50) made += arrayCall(kinds);
            else if (pick < 12) made += typeRule(style);
            else if (pick < 20) made += typeString();
            else {
                String name = names.get(random.nextInt(names.size()));
                boolean reads = name.equals("addRule") || name.equals("setString") || name.equals("compareWithInput");
                boolean rare = reads || name.equals("reset") || name.equals("restore") || name.equals("clearInput");
                boolean slowOne = (name.equals("findLevels") || name.equals("findWeights")) && letters > 4;
                if (rare && random.nextInt(6) != 0 || slowOne && random.nextInt(8) != 0) continue;
                long answer = call(name, argumentsFor(REAL.get(name)), kinds);
                made++;
                if (name.equals("findLoop") && answer > 0 && answer < 40) made += readLoop((int) answer, kinds);
                if (name.equals("findCertificate") && answer > 0 && random.nextInt(3) == 0) made += checkFound((int) answer, kinds);
            }
        }
    }

    private long call(String name, Object[] arguments, java.util.Map<String, Integer> kinds) throws Exception {
        long got = ((Number) REAL.get(name).invoke(real, arguments)).longValue();
        long want = ((Number) SLOW.get(name).invoke(slow, arguments)).longValue();
        log.add(name + Arrays.toString(arguments) + ": " + got + (got == want ? "" : ", due is " + want));
        if (got != want) wrong = true;
        letters = slow.letters();
        if (kinds != null) kinds.merge(name + (got < -14 ? " negative" : got < 0 ? " " + got : got == 0 ? " zero" : " positive"), 1, Integer::sum);
        return got;
    }

    private int readLoop(int steps, java.util.Map<String, Integer> kinds) throws Exception {
        for (int step = 0; step <= steps; step++) {
            for (int what = 0; what < 2; what++) call("loopStep", new Object[] {step, what}, kinds);
        }
        return 2 * steps + 2;
    }

    /** Few slots, types and sizes, so that most calls find an array and many find two of one type. */
    private int arrayCall(java.util.Map<String, Integer> kinds) throws Exception {
        int slot = random.nextInt(2);
        int index = random.nextInt(3);
        int other = random.nextInt(3);
        switch (random.nextInt(12)) {
            case 0: call("allocate", new Object[] {slot, 2 + random.nextInt(2) - 2 * (random.nextInt(6) / 5), 2 + random.nextInt(3)}, kinds); break;
            case 1: case 2: case 3: call("putElement", new Object[] {slot, index, wide()}, kinds); break;
            case 4: case 5: case 6: call("divideElement", new Object[] {slot, index, fitting("divideElement", 2)}, kinds); break;
            case 7: case 8: call("copyElements", new Object[] {slot, index, random.nextInt(2), other, random.nextInt(4)}, kinds); break;
            case 9: return tryCertificate(kinds);
            default: call("element", new Object[] {slot, index}, kinds); break;
        }
        return 1;
    }

    private int tryCertificate(java.util.Map<String, Integer> kinds) throws Exception {
        call("allocate", new Object[] {2, 0, 8}, kinds);
        for (int rule = 0; rule < 4; rule++) call("putElement", new Object[] {2, rule, (long) random.nextInt(4)}, kinds);
        call("checkCertificate", new Object[] {2}, kinds);
        return 6;
    }

    /** Puts the digits of a found certificate into an array, sometimes with one of them changed. */
    private int checkFound(int certificate, java.util.Map<String, Integer> kinds) throws Exception {
        int rules = slow.ruleCount();
        call("allocate", new Object[] {2, 0, rules + random.nextInt(2)}, kinds);
        for (int rule = rules - 1, rest = certificate; rule >= 0; rule--, rest /= 4) {
            long factor = rest % 4 + (random.nextInt(16) == 0 ? random.nextInt(5) - 2 : 0);
            call("putElement", new Object[] {2, rule, factor}, kinds);
        }
        call("checkCertificate", new Object[] {2}, kinds);
        return rules + 2;
    }

    private int type(String text) throws Exception {
        int calls = 0;
        for (int i = 0; i < text.length(); ) {
            int end = i;
            while (end < text.length() && text.charAt(end) == text.charAt(i)) end++;
            call("append", new Object[] {(int) text.charAt(i), end - i}, null);
            calls++;
            i = end;
        }
        return calls;
    }

    private String word(int least, int most) {
        StringBuilder s = new StringBuilder();
        int size = least + random.nextInt(most - least + 1);
        int used = 1 + random.nextInt(letters);
        for (int i = 0; i < size; i++) s.append((char) ('a' + random.nextInt(used)));
        if (random.nextInt(60) == 0) s.append((char) random.nextInt(128));
        return s.toString();
    }

    private int typeRule(int style) throws Exception {
        String left;
        String right;
        if (style == 0) { left = word(1, 2); right = word(0, 3); }
        else if (style == 1) { left = word(1, 6); right = word(0, 6); }
        else if (style == 2) { left = word(2, 4); right = shuffled(left); }
        else if (style == 3) { left = word(2, 5); right = word(0, left.length() - 1); }
        else if (style == 4) { left = word(1, 2); right = word(2, 4); }
        else { left = word(1, 1); right = word(1, 1); }
        if (random.nextInt(40) == 0) left = word(0, 7);
        if (random.nextInt(40) == 0) right = word(0, 8);
        int calls = type(left + (random.nextInt(50) == 0 ? "" : ">") + right);
        call("addRule", new Object[0], null);
        return calls + 1;
    }

    private String shuffled(String s) {
        List<Character> all = new ArrayList<>();
        for (char c : s.toCharArray()) all.add(c);
        java.util.Collections.shuffle(all, random);
        StringBuilder t = new StringBuilder();
        for (char c : all) t.append(c);
        return t.toString();
    }

    private int typeString() throws Exception {
        int calls = type(word(0, random.nextInt(8) == 0 ? 13 : 8));
        call(random.nextInt(3) == 0 ? "compareWithInput" : "setString", new Object[0], null);
        return calls + 1;
    }

    private Object[] argumentsFor(Method m) {
        Class<?>[] types = m.getParameterTypes();
        Object[] all = new Object[types.length];
        for (int i = 0; i < all.length; i++) all[i] = types[i] == long.class ? (Object) wide() : (Object) fitting(m.getName(), i);
        return all;
    }

    private long wide() {
        int pick = random.nextInt(6);
        if (pick == 0) return random.nextLong();
        if (pick == 1) return Long.MAX_VALUE;
        if (pick == 2) return Long.MIN_VALUE;
        return random.nextInt(10) - 3;
    }

    private int fitting(String name, int place) {
        int odd = random.nextInt(60);
        if (odd == 0) return Integer.MAX_VALUE;
        if (odd == 1) return Integer.MIN_VALUE;
        if (odd == 2) return -1;
        switch (name + place) {
            case "append0": return random.nextInt(4) == 0 ? random.nextInt(130) : 'a' + random.nextInt(letters);
            case "append1": return random.nextInt(20) == 0 ? random.nextInt(43) : 1 + random.nextInt(3);
            case "reset0": return random.nextInt(8);
            case "setWeight1": return random.nextInt(3) == 0 ? random.nextInt(102) : random.nextInt(4);
            case "setLevel1": return random.nextInt(11);
            case "setStatus0": return random.nextInt(3);
            case "findWeights0": return random.nextInt(8);
            case "normalize0": return random.nextInt(5) == 0 ? random.nextInt(1003) : random.nextInt(5);
            case "loopStep1": return random.nextInt(3);
            case "improve0": return random.nextInt(3) == 0 ? random.nextInt(103) : 1 + random.nextInt(4);
            case "setApproximateWeight1":
            case "setApproximateWeight2": return random.nextInt(4) == 0 ? random.nextInt(1000003) : random.nextInt(12);
            case "roundWeights0": return random.nextInt(3) == 0 ? random.nextInt(103) : 1 + random.nextInt(8);
            case "allocate1": return random.nextInt(16) == 0 ? 4 : random.nextInt(4);
            case "allocate2": return random.nextInt(4) == 0 ? random.nextInt(43) - 1 : random.nextInt(12);
            case "divideElement2": return random.nextInt(3) == 0 ? random.nextInt() : random.nextInt(5) - 2;
            case "copyElements4": return random.nextInt(6);
            case "ruleLetter1": return random.nextInt(3);
            default: return random.nextInt(random.nextInt(3) == 0 ? 10 : 4);
        }
    }
}
