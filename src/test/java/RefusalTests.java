import java.util.function.ToLongFunction;

/** A call that is refused, or that only asks, leaves everything as it was; only the input buffer is empty after a call that reads it. */
public final class RefusalTests extends Checks {
    private static final int BAD_ARGUMENT = -1, NO_SUCH_LETTER = -2, NO_SUCH_RULE = -3, FULL = -4, BAD_INPUT = -5, NONE = -6;
    private static final int LIMIT_EXCEEDED = -7, ALPHABET_TOO_LARGE = -8, NOT_APPLICABLE = -9, EMPTY_SLOT = -11, WRONG_TYPE = -12;
    private static final int INDEX_OUT_OF_RANGE = -13, NEGATIVE_SIZE = -14;
    private static final long NO_VALUE = Long.MIN_VALUE;
    private static final int[] OUTSIDE = {-1, 6, 8, 1000, MIN, MAX};

    public static void main(String[] args) throws IllegalAccessException {
        runAll(RefusalTests.class);
        end("RefusalTests");
    }

    /** An object in which nothing is as it is in a new one, neither what the snapshot holds nor what there is now. */
    private static void fill(int letters, String... texts) {
        fresh(5);
        rules("e>d", "ab>");
        string("edcba");
        weights(5, 4, 3, 2, 1);
        levels(1, 2, 3, 4, 5);
        x.setApproximateWeight(4, 5, 2);
        x.snapshot();
        x.reset(letters);
        rules(texts);
        due("findLoop", x.findLoop(0), 1);
        string("aab");
        weights(7, 0, 9);
        levels(3, 9, 4);
        x.setStatus(1);
        x.setApproximateWeight(0, 1, 8);
        x.setApproximateWeight(2, 9, 2);
        for (int slot = 0; slot < 3; slot++) {
            x.allocate(slot, slot, 3);
            for (int index = 0; index < 3; index++) x.putElement(slot, index, 10 * slot + index);
        }
    }

    private static void fill() { fill(4, "ab>cab", "b>", "c>bc"); }

    private static void fillWithEightRules() { fill(4, "ab>cab", "b>", "c>bc", "a>d", "d>aa", "bb>c", "cd>a", "aaa>b"); }

    /** All that can be asked, the snapshot's content last; the object is spent after it. */
    private static String picture() {
        StringBuilder all = new StringBuilder();
        addSystem(all);
        all.append(" loop");
        for (int step = 0; step < 3; step++) all.append(' ').append(x.loopStep(step, 0)).append('@').append(x.loopStep(step, 1));
        for (int slot = 0; slot < 4; slot++) {
            all.append(" slot ").append(x.divideElement(slot, -1, 1));
            for (int index = 0; index < 4; index++) all.append(' ').append(x.element(slot, index));
        }
        all.append(" buffer ").append(x.setString()).append(string());
        all.append(" snapshot ").append(x.restore());
        addSystem(all);
        return all.toString();
    }

    private static void addSystem(StringBuilder all) {
        all.append("letters ").append(x.letters()).append(" rules");
        for (int rule = 0; rule < x.ruleCount(); rule++) {
            all.append(' ');
            for (int side = 0; side < 2; side++) {
                for (int position = 0; x.ruleLetter(rule, side, position) >= 0; position++) all.append(x.ruleLetter(rule, side, position));
                all.append(side == 0 ? ">" : "=").append(x.balance(rule, side));
            }
        }
        for (int letter = 0; letter < x.letters(); letter++) {
            all.append(" letter ").append(x.weight(letter)).append(' ').append(x.level(letter)).append(' ').append(x.approximateWeight(letter));
        }
        int status = x.setStatus(0);
        x.setStatus(status);
        all.append(" status ").append(status).append(" string ").append(string());
    }

    /** Makes the call on a full object, and compares all that can be asked with an object that did not have the call. */
    private static void kept(String call, Runnable filling, String held, ToLongFunction<RewritingTermination> asked, long answer, boolean reads) {
        filling.run();
        type(reads ? "" : held);
        String want = picture();
        filling.run();
        type(held);
        due(call, asked.applyAsLong(x), answer);
        due("everything after " + call, picture(), want);
    }

    private static void keeps(String call, ToLongFunction<RewritingTermination> asked, long answer) {
        kept(call, RefusalTests::fill, "ca", asked, answer, false);
    }

    private static void reads(String call, String held, ToLongFunction<RewritingTermination> asked, long answer) {
        kept(call, RefusalTests::fill, held, asked, answer, true);
    }

    static void pictureSeesADifference() {
        fill();
        String full = picture();
        fresh();
        due("a new object looks different", picture().equals(full) ? 1 : 0, 0);
        fill();
        due("the same calls look the same", picture(), full);
    }

    static void alphabetAndBuffer() {
        for (int letters : new int[] {0, 7, -1, MIN, MAX}) keeps("reset", x -> x.reset(letters), BAD_ARGUMENT);
        for (int value : new int[] {-1, 128, MIN, MAX}) keeps("append", x -> x.append(value, 1), BAD_ARGUMENT);
        for (int count : new int[] {0, 41, -1, MIN, MAX}) keeps("append", x -> x.append('a', count), BAD_ARGUMENT);
        for (int count : new int[] {39, 40}) keeps("append", x -> x.append('a', count), FULL);
    }

    static void rulesOfASystem() {
        for (String text : new String[] {"", "a", ">", ">a", "a>e", "a>aaaaaaa", "aaaaaaa>a", "a>b>c", "a b"}) {
            reads("addRule '" + text + "'", text, x -> x.addRule(), BAD_INPUT);
            kept("addRule to eight", RefusalTests::fillWithEightRules, text, x -> x.addRule(), FULL, true);
        }
        kept("addRule to eight", RefusalTests::fillWithEightRules, "a>b", x -> x.addRule(), FULL, true);
        for (int rule : OUTSIDE) {
            keeps("removeRule", x -> x.removeRule(rule), NO_SUCH_RULE);
            keeps("ruleLetter", x -> x.ruleLetter(rule, 0, 0), NO_SUCH_RULE);
            keeps("balance", x -> x.balance(rule, 0), NO_SUCH_RULE);
            keeps("compareSides", x -> x.compareSides(rule), NO_SUCH_RULE);
            keeps("rewrite", x -> x.rewrite(rule, 0), NO_SUCH_RULE);
            keeps("findLoop", x -> x.findLoop(rule), NO_SUCH_RULE);
            keeps("margin", x -> x.margin(rule), NO_VALUE);
        }
        keeps("ruleLetter", x -> x.ruleLetter(0, 2, 0), BAD_ARGUMENT);
        keeps("ruleLetter", x -> x.ruleLetter(0, 0, 2), NONE);
    }

    static void weightsAndLevels() {
        for (int letter : OUTSIDE) {
            keeps("balance", x -> x.balance(0, letter), NO_SUCH_LETTER);
            keeps("setWeight", x -> x.setWeight(letter, 1), NO_SUCH_LETTER);
            keeps("weight", x -> x.weight(letter), NO_SUCH_LETTER);
            keeps("setLevel", x -> x.setLevel(letter, 1), NO_SUCH_LETTER);
            keeps("level", x -> x.level(letter), NO_SUCH_LETTER);
            keeps("reachableLetters", x -> x.reachableLetters(letter), NO_SUCH_LETTER);
            keeps("setApproximateWeight", x -> x.setApproximateWeight(letter, 1, 1), NO_SUCH_LETTER);
            keeps("approximateWeight", x -> x.approximateWeight(letter), NO_VALUE);
        }
        for (int weight : new int[] {-1, 100, MIN, MAX}) keeps("setWeight", x -> x.setWeight(0, weight), BAD_ARGUMENT);
        for (int level : new int[] {-1, 10, MIN, MAX}) keeps("setLevel", x -> x.setLevel(0, level), BAD_ARGUMENT);
        for (int status : new int[] {-1, 2, MIN, MAX}) keeps("setStatus", x -> x.setStatus(status), BAD_ARGUMENT);
        for (int part : new int[] {-1, 1000001, MIN, MAX}) {
            keeps("setApproximateWeight", x -> x.setApproximateWeight(0, part, 1), BAD_ARGUMENT);
            keeps("setApproximateWeight", x -> x.setApproximateWeight(0, 1, part), BAD_ARGUMENT);
        }
        keeps("setApproximateWeight", x -> x.setApproximateWeight(0, 1, 0), BAD_ARGUMENT);
        for (int number : new int[] {0, 101, -1, MIN, MAX}) {
            keeps("improve", x -> x.improve(number), BAD_ARGUMENT);
            keeps("roundWeights", x -> x.roundWeights(number), BAD_ARGUMENT);
        }
    }

    static void searches() {
        for (int limit : new int[] {0, 7, -1, MIN, MAX}) keeps("findWeights", x -> x.findWeights(limit), BAD_ARGUMENT);
        for (int limit = 1; limit <= 6; limit++) {
            int most = limit;
            keeps("findWeights", x -> x.findWeights(most), NONE);
        }
        keeps("findLevels", x -> x.findLevels(), NONE);
        keeps("findOrder", x -> x.findOrder(), NONE);
        kept("findOrder", () -> fill(5, "ab>cab"), "ca", x -> x.findOrder(), ALPHABET_TOO_LARGE, false);
        kept("findCertificate", () -> fill(4, "ab>abb", "b>"), "ca", x -> x.findCertificate(), 4, false);
        keeps("findLoop", x -> x.findLoop(1), NONE);
        kept("findLoop", () -> fill(6, "ef>cef", "dd>aaaaaa", "a>b", "b>c"), "ca", x -> x.findLoop(1), LIMIT_EXCEEDED, false);
        kept("longestDerivation", () -> fill(4, "ab>cab", "c>ba"), "ca", x -> x.longestDerivation(), LIMIT_EXCEEDED, false);
        kept("longestDerivation", () -> fill(4, "ab>ab"), "ca", x -> x.longestDerivation(), NONE, false);
        for (int what : new int[] {-1, 2, MIN, MAX}) keeps("loopStep", x -> x.loopStep(0, what), BAD_ARGUMENT);
        for (int step : new int[] {-1, 1, 200, MIN, MAX}) keeps("loopStep", x -> x.loopStep(step, 0), NONE);
    }

    static void strings() {
        for (String text : new String[] {"e", "aaaaaaaaaaaaa", "a>b", " "}) {
            reads("setString '" + text + "'", text, x -> x.setString(), BAD_INPUT);
            reads("compareWithInput '" + text + "'", text, x -> x.compareWithInput(), BAD_INPUT);
        }
        reads("compareWithInput", "aab", x -> x.compareWithInput(), 1);
        for (int position : new int[] {-1, 3, 12, MIN, MAX}) {
            keeps("stringLetter", x -> x.stringLetter(position), NONE);
            keeps("rewrite", x -> x.rewrite(0, position), NOT_APPLICABLE);
        }
        keeps("rewrite", x -> x.rewrite(0, 0), NOT_APPLICABLE);
        for (int steps : new int[] {-1, 1001, MIN, MAX}) keeps("normalize", x -> x.normalize(steps), BAD_ARGUMENT);
        keeps("normalize", x -> x.normalize(0), 0);
    }

    static void arrays() {
        for (int slot : new int[] {-1, 4, MIN, MAX}) {
            keeps("allocate", x -> x.allocate(slot, 0, 1), BAD_ARGUMENT);
            keeps("release", x -> x.release(slot), BAD_ARGUMENT);
            keeps("putElement", x -> x.putElement(slot, 0, 1), BAD_ARGUMENT);
            keeps("divideElement", x -> x.divideElement(slot, 0, 1), BAD_ARGUMENT);
            keeps("element", x -> x.element(slot, 0), NO_VALUE);
            keeps("copyElements", x -> x.copyElements(slot, 0, 0, 0, 1), BAD_ARGUMENT);
            keeps("copyElements", x -> x.copyElements(0, 0, slot, 0, 1), BAD_ARGUMENT);
            keeps("checkCertificate", x -> x.checkCertificate(slot), BAD_ARGUMENT);
        }
        for (int type : new int[] {-1, 4, MIN, MAX}) keeps("allocate", x -> x.allocate(0, type, 1), BAD_ARGUMENT);
        for (int size : new int[] {41, MAX}) keeps("allocate", x -> x.allocate(0, 0, size), BAD_ARGUMENT);
        for (int size : new int[] {-1, MIN}) keeps("allocate", x -> x.allocate(0, 0, size), NEGATIVE_SIZE);
        keeps("release", x -> x.release(3), 0);
        keeps("putElement", x -> x.putElement(3, 0, 1), EMPTY_SLOT);
        keeps("divideElement", x -> x.divideElement(3, 0, 1), EMPTY_SLOT);
        keeps("copyElements", x -> x.copyElements(3, 0, 0, 0, 1), EMPTY_SLOT);
        keeps("copyElements", x -> x.copyElements(0, 0, 3, 0, 1), EMPTY_SLOT);
        keeps("checkCertificate", x -> x.checkCertificate(3), EMPTY_SLOT);
        keeps("divideElement", x -> x.divideElement(0, 1, 0), WRONG_TYPE);
        keeps("divideElement", x -> x.divideElement(1, 1, 2), WRONG_TYPE);
        keeps("copyElements", x -> x.copyElements(0, 0, 1, 0, 1), WRONG_TYPE);
        keeps("checkCertificate", x -> x.checkCertificate(1), WRONG_TYPE);
        for (int index : new int[] {-1, 3, 40, MIN, MAX}) {
            keeps("putElement", x -> x.putElement(1, index, 9), INDEX_OUT_OF_RANGE);
            keeps("divideElement", x -> x.divideElement(2, index, 9), INDEX_OUT_OF_RANGE);
            keeps("element", x -> x.element(1, index), NO_VALUE);
            keeps("copyElements", x -> x.copyElements(0, index, 0, 0, 1), INDEX_OUT_OF_RANGE);
            keeps("copyElements", x -> x.copyElements(0, 0, 0, index, 1), INDEX_OUT_OF_RANGE);
        }
        for (int count : new int[] {-1, 3, MIN, MAX}) keeps("copyElements", x -> x.copyElements(0, 0, 0, 1, count), INDEX_OUT_OF_RANGE);
        kept("checkCertificate", RefusalTests::fillWithEightRules, "ca", x -> x.checkCertificate(0), INDEX_OUT_OF_RANGE, false);
    }

    static void callsThatOnlyAsk() {
        keeps("letters", x -> x.letters(), 4);
        keeps("ruleCount", x -> x.ruleCount(), 3);
        keeps("ruleLetter", x -> x.ruleLetter(0, 1, 0), 2);
        keeps("balance", x -> x.balance(0, 2), 99);
        keeps("weight", x -> x.weight(2), 9);
        keeps("level", x -> x.level(2), 4);
        keeps("isAdmissible", x -> x.isAdmissible(), 1);
        keeps("compareSides", x -> x.compareSides(0), 0);
        keeps("firstUnoriented", x -> x.firstUnoriented(), 0);
        keeps("findCertificate", x -> x.findCertificate(), 1);
        keeps("reachableLetters", x -> x.reachableLetters(0), 7);
        keeps("stringLength", x -> x.stringLength(), 3);
        keeps("stringLetter", x -> x.stringLetter(2), 1);
        keeps("stringWeight", x -> x.stringWeight(), 14);
        kept("longestDerivation", () -> fill(4, "ab>ab", "aab>d"), "ca", x -> x.longestDerivation(), NONE, false);
        keeps("loopStep", x -> x.loopStep(0, 1), 0);
        keeps("approximateWeight", x -> x.approximateWeight(0), 125000);
        keeps("margin", x -> x.margin(1), 1000000);
        keeps("element", x -> x.element(2, 1), 21);
        keeps("checkCertificate", x -> x.checkCertificate(0), 1);
    }

    static void nothingToRestore() {
        rules("a>ba");
        x.findLoop(0);
        string("ab");
        type("ca");
        due("restore", x.restore(), NONE);
        due("loopStep", x.loopStep(0, 0), 0);
        due("setString", x.setString(), 2);
        due("ruleCount", x.ruleCount(), 1);
    }
}
