import java.lang.management.ManagementFactory;

/** All calls of a run share one small room, so no call but the constructor makes an object; and no call takes long. */
public final class RoomTests {
    private static final int CALLS = 512;
    private static final long MOST_BYTES_OF_AN_OBJECT = 64 * 1024;
    private static final long MOST_MILLISECONDS_OF_A_CALL = 500;

    private static final com.sun.management.ThreadMXBean THREADS =
        (com.sun.management.ThreadMXBean) ManagementFactory.getThreadMXBean();

    private static int passed = 0;
    private static int failed = 0;

    public static void main(String[] args) {
        callAll(dear());
        long before = allocated();
        RewritingTermination x = new RewritingTermination();
        long made = allocated() - before;
        check("a new object takes " + made + " bytes", made <= MOST_BYTES_OF_AN_OBJECT);

        RewritingTermination y = dear();
        before = allocated();
        for (int i = 0; i < CALLS / 47; i++) callAll(y);
        long used = allocated() - before;
        check("the calls of a run took " + used + " bytes", used <= 1024);

        takesNoTime();
        System.out.println("RoomTests: " + passed + " passed, " + failed + " failed");
        if (failed != 0) System.exit(1);
    }

    private static long allocated() { return THREADS.getThreadAllocatedBytes(Thread.currentThread().getId()); }

    private static void check(String what, boolean holds) {
        if (holds) {
            passed++;
        } else {
            failed++;
            System.out.println("RoomTests: " + what);
        }
    }

    private static void rule(RewritingTermination x, String text) {
        for (int i = 0; i < text.length(); i++) x.append(text.charAt(i), 1);
        x.addRule();
    }

    private static RewritingTermination dear() {
        RewritingTermination x = new RewritingTermination();
        x.reset(6);
        for (String text : new String[] {"aafff>bafff", "a>b", "b>c", "c>d", "d>e", "f>e", "eeeee>eaafff", "ab>ba"}) rule(x, text);
        for (char c : "aaaf".toCharArray()) x.append(c, 1);
        x.setString();
        return x;
    }

    private static void callAll(RewritingTermination x) {
        x.snapshot();
        x.findLoop(0);
        x.loopStep(3, 1);
        x.longestDerivation();
        x.findWeights(6);
        x.findCertificate();
        x.findLevels();
        x.findOrder();
        x.reachableLetters(0);
        x.firstUnoriented();
        x.isAdmissible();
        x.compareSides(0);
        x.improve(100);
        x.margin(0);
        x.roundWeights(7);
        x.setApproximateWeight(0, 1, 3);
        for (int slot = 0; slot < 4; slot++) x.allocate(slot, slot, 40);
        x.putElement(2, 0, 5);
        x.divideElement(2, 0, 3);
        x.copyElements(2, 0, 2, 1, 39);
        x.element(2, 39);
        x.checkCertificate(0);
        x.release(3);
        x.normalize(1000);
        x.rewrite(1, 0);
        x.append('a', 12);
        x.compareWithInput();
        x.append('a', 12);
        x.setString();
        x.removeRule(7);
        x.append('a', 1);
        x.append('>', 1);
        x.addRule();
        x.restore();
        x.clearInput();
    }

    /** Systems without weights, levels or certificates, where a search has to look at everything. */
    private static void takesNoTime() {
        String[][] systems = {
            {"abcdef>fedcba", "ab>ba", "cd>dc", "ef>fe", "aab>baa", "bbc>cbb", "ccd>dcc", "fed>def"},
            {"a>b", "b>c", "c>d", "d>e", "e>f", "f>", "aa>", "bb>aa"},
            {"aaaaaa>bbbbb", "bbbbbb>ccccc", "cccccc>ddddd", "dddddd>eeeee", "eeeeee>fffff", "ffffff>aaaaa", "a>b", "b>c"},
            {"ab>cd", "cd>ef", "ef>ab", "ace>bdf", "aa>bf", "cc>da", "ee>fb", "abc>def"},
            {"aabb>cdef", "ccdd>abef", "eeff>abcd", "abcd>eeff", "acef>bbdd", "bdef>aacc", "abef>ccdd", "cdef>aabb"},
        };
        for (String[] system : systems) {
            RewritingTermination x = new RewritingTermination();
            x.reset(6);
            for (String text : system) rule(x, text);
            time("findWeights", system, () -> x.findWeights(6));
            time("findCertificate", system, x::findCertificate);
            time("findLevels", system, x::findLevels);
            time("findLoop", system, () -> x.findLoop(0));
            x.append('a', 1);
            x.append('b', 11);
            x.setString();
            time("longestDerivation", system, x::longestDerivation);
        }
    }

    private static void time(String call, String[] system, java.util.function.IntSupplier asked) {
        // The time of this thread alone: what else the machine does must not fail a test.
        long start = THREADS.getCurrentThreadCpuTime();
        int answer = asked.getAsInt();
        long milliseconds = (THREADS.getCurrentThreadCpuTime() - start) / 1000000;
        if (Boolean.getBoolean("times")) System.out.println(call + " of " + String.join(" ", system) + ": " + answer + " in " + milliseconds + " ms");
        check(call + " of " + String.join(" ", system) + " took " + milliseconds + " ms", milliseconds <= MOST_MILLISECONDS_OF_A_CALL);
    }
}
