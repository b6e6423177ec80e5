/** At least one test for each promise of the document, named by its number; and the document's examples. */
public final class PromiseTests extends Checks {
    public static void main(String[] args) throws Exception {
        runAll(PromiseTests.class);
        end("PromiseTests");
    }

    static void example1() {
        due("append", x.append(97, 1), 1);
        due("append", x.append(98, 1), 2);
        due("append", x.append(62, 1), 3);
        due("append", x.append(98, 1), 4);
        due("append", x.append(97, 1), 5);
        due("addRule", x.addRule(), 0);
        due("findWeights(3)", x.findWeights(3), -6);
        due("findCertificate", x.findCertificate(), 1);
        due("findOrder", x.findOrder(), 1);
        due("weight(0)", x.weight(0), 0);
        due("level(0)", x.level(0), 1);
        due("compareSides(0)", x.compareSides(0), 2);
    }

    static void example2() {
        due("addRule", rule("a>ba"), 0);
        due("findLoop(0)", x.findLoop(0), 1);
        due("loopStep(0, 1)", x.loopStep(0, 1), 0);
        due("setString", string("a"), 1);
        due("longestDerivation", x.longestDerivation(), 11);
        due("normalize(3)", x.normalize(3), 3);
        due("stringLength", x.stringLength(), 4);
        dueString("bbba");
    }

    static void example3() {
        due("setApproximateWeight", x.setApproximateWeight(0, 1, 3), 1);
        due("approximateWeight", x.approximateWeight(0), 333333);
        due("allocate", x.allocate(0, 2, 1), 1);
        due("putElement", x.putElement(0, 0, 16777217L), 1);
        due("element", x.element(0, 0), 16777216);
        due("divideElement", x.divideElement(0, 0, 0), 1);
        due("element", x.element(0, 0), Long.MAX_VALUE);
        due("addRule", x.addRule(), -5);
    }

    static void promise01NewObject() {
        due("letters", x.letters(), 3);
        due("ruleCount", x.ruleCount(), 0);
        due("clearInput", x.clearInput(), 0);
        due("stringLength", x.stringLength(), 0);
        due("loopStep", x.loopStep(0, 0), -6);
        due("restore", x.restore(), -6);
        dueWeights(1, 1, 1, -2);
        dueLevels(0, 0, 0, -2);
        due("setStatus", x.setStatus(0), 0);
        for (int k = 0; k < 3; k++) due("approximateWeight", x.approximateWeight(k), 1000000);
        for (int slot = 0; slot < 4; slot++) due("release", x.release(slot), 0);
    }

    static void promise02Reset() {
        for (int wrong : new int[] {0, 7, -1, MIN, MAX}) due("reset(" + wrong + ")", x.reset(wrong), -1);
        rules("a>ba", "ab>c");
        string("abc");
        x.findLoop(0);
        x.setWeight(0, 5);
        x.setLevel(1, 4);
        x.setStatus(1);
        x.setApproximateWeight(2, 7, 2);
        x.snapshot();
        x.allocate(1, 0, 2);
        x.putElement(1, 1, 9);
        type("ab");
        due("reset(0)", x.reset(0), -1);
        due("ruleCount", x.ruleCount(), 2);
        due("weight", x.weight(0), 5);
        due("loopStep", x.loopStep(0, 0), 0);
        due("reset(6)", x.reset(6), 3);
        due("letters", x.letters(), 6);
        due("ruleCount", x.ruleCount(), 0);
        due("stringLength", x.stringLength(), 0);
        due("loopStep", x.loopStep(0, 0), -6);
        dueWeights(1, 1, 1, 1, 1, 1, -2);
        dueLevels(0, 0, 0, 0, 0, 0, -2);
        due("setStatus", x.setStatus(0), 0);
        for (int k = 0; k < 6; k++) due("approximateWeight", x.approximateWeight(k), 1000000);
        due("element", x.element(1, 1), 9);
        due("clearInput", x.clearInput(), 2);
        due("restore", x.restore(), 2);
        due("letters", x.letters(), 3);
        dueString("abc");
        due("reset(1)", x.reset(1), 3);
        due("reset(1)", x.reset(1), 1);
    }

    static void promise03Letters() {
        for (int n = 1; n <= 6; n++) {
            x.reset(n);
            due("letters", x.letters(), n);
        }
    }

    static void promise04Append() {
        due("append(-1, 1)", x.append(-1, 1), -1);
        due("append(128, 1)", x.append(128, 1), -1);
        due("append(0, 0)", x.append(0, 0), -1);
        due("append(0, 41)", x.append(0, 41), -1);
        due("append(0, MIN)", x.append(0, MIN), -1);
        due("append(0, MAX)", x.append(0, MAX), -1);
        due("append(0, 1)", x.append(0, 1), 1);
        due("append(127, 38)", x.append(127, 38), 39);
        due("append(1, 2)", x.append(1, 2), -4);
        due("append(1, 40)", x.append(1, 40), -4);
        due("append(1, 41)", x.append(1, 41), -1);
        due("append(1, 1)", x.append(1, 1), 40);
        due("append(1, 1)", x.append(1, 1), -4);
        due("append(128, 1)", x.append(128, 1), -1);
        due("clearInput", x.clearInput(), 40);
        due("append(97, 40)", x.append(97, 40), 40);
        // Nothing of a refused append may stay.
        x.clearInput();
        x.append('a', 12);
        due("append(98, 29)", x.append('b', 29), -4);
        due("setString", x.setString(), 12);
        dueString("aaaaaaaaaaaa");
    }

    static void promise05ClearInput() {
        due("clearInput", x.clearInput(), 0);
        x.append(97, 7);
        due("clearInput", x.clearInput(), 7);
        due("clearInput", x.clearInput(), 0);
        due("setString", x.setString(), 0);
    }

    static void promise06AddRule() {
        for (String wrong : new String[] {"", ">", "a", ">a", "aaaaaaa>a", "a>aaaaaaa", "d>a", "a>d", "a>>b", "a>b>", "a >b",
            "a> b", "A>b", "a-b", "a>b\u0000", "\u007fa>b", "ab", "`>a"}) {
            due("rule " + wrong, rule(wrong), -5);
            due("clearInput", x.clearInput(), 0);
        }
        due("ruleCount", x.ruleCount(), 0);
        due("rule", rule("abcabc>cbacba"), 0);
        due("rule", rule("a>"), 1);
        due("rule", rule("a>a"), 2);
        due("rule", rule("a>a"), 3);
        for (int r = 4; r < 8; r++) due("rule", rule("b>c"), r);
        due("a ninth rule", rule("b>c"), -4);
        due("clearInput", x.clearInput(), 0);
        due("a ninth rule that is wrong", rule("?"), -4);
        due("clearInput", x.clearInput(), 0);
        due("a ninth rule that is nothing", x.addRule(), -4);
        due("ruleCount", x.ruleCount(), 8);
        due("ruleLetter", x.ruleLetter(0, 0, 5), 2);
        due("ruleLetter", x.ruleLetter(0, 1, 0), 2);
        x.reset(1);
        due("rule", rule("b>a"), -5);
        due("rule", rule("aaaaaa>aaaaaa"), 0);
        x.reset(6);
        due("rule", rule("fedcba>abcdef"), 0);
        due("rule", rule("g>a"), -5);
    }

    static void promise06KeepsTheLoop() {
        rules("a>ba");
        due("findLoop", x.findLoop(0), 1);
        rules("b>c");
        due("loopStep", x.loopStep(0, 0), 0);
    }

    static void promise07RemoveRule() {
        due("removeRule(0)", x.removeRule(0), -3);
        rules("a>b", "b>c", "c>aab");
        due("removeRule(3)", x.removeRule(3), -3);
        due("removeRule(-1)", x.removeRule(-1), -3);
        due("removeRule(MIN)", x.removeRule(MIN), -3);
        due("removeRule(1)", x.removeRule(1), 2);
        due("ruleLetter", x.ruleLetter(0, 0, 0), 0);
        due("ruleLetter", x.ruleLetter(1, 0, 0), 2);
        due("ruleLetter", x.ruleLetter(1, 1, 2), 1);
        due("balance", x.balance(1, 0), 98);
        due("balance", x.balance(1, 2), 101);
        due("removeRule(2)", x.removeRule(2), -3);
        due("removeRule(0)", x.removeRule(0), 1);
        due("balance", x.balance(0, 0), 98);
        due("removeRule(0)", x.removeRule(0), 0);
        due("removeRule(0)", x.removeRule(0), -3);
        rules("a>ba", "c>");
        x.findLoop(0);
        due("removeRule(5)", x.removeRule(5), -3);
        due("loopStep", x.loopStep(0, 0), 0);
        due("removeRule(1)", x.removeRule(1), 1);
        due("loopStep", x.loopStep(0, 0), -6);
    }

    static void promise08RuleCount() {
        for (int r = 0; r < 8; r++) {
            due("ruleCount", x.ruleCount(), r);
            rules("a>b");
        }
        due("ruleCount", x.ruleCount(), 8);
    }

    static void promise09RuleLetter() {
        due("ruleLetter(0, 5, 9)", x.ruleLetter(0, 5, 9), -3);
        rules("abc>c");
        due("ruleLetter(-1, 0, 0)", x.ruleLetter(-1, 0, 0), -3);
        due("ruleLetter(1, 2, 0)", x.ruleLetter(1, 2, 0), -3);
        due("ruleLetter(0, 2, 99)", x.ruleLetter(0, 2, 99), -1);
        due("ruleLetter(0, -1, 0)", x.ruleLetter(0, -1, 0), -1);
        for (int p = 0; p < 3; p++) due("ruleLetter(0, 0, p)", x.ruleLetter(0, 0, p), p);
        due("ruleLetter(0, 0, 3)", x.ruleLetter(0, 0, 3), -6);
        due("ruleLetter(0, 0, -1)", x.ruleLetter(0, 0, -1), -6);
        due("ruleLetter(0, 0, MIN)", x.ruleLetter(0, 0, MIN), -6);
        due("ruleLetter(0, 0, MAX)", x.ruleLetter(0, 0, MAX), -6);
        due("ruleLetter(0, 1, 0)", x.ruleLetter(0, 1, 0), 2);
        due("ruleLetter(0, 1, 1)", x.ruleLetter(0, 1, 1), -6);
    }

    static void promise10Balance() {
        due("balance(0, 9)", x.balance(0, 9), -3);
        rules("aaaaaa>bbbbbb", "aab>abb");
        due("balance", x.balance(0, 0), 106);
        due("balance", x.balance(0, 1), 94);
        due("balance", x.balance(0, 2), 100);
        due("balance", x.balance(0, 3), -2);
        due("balance", x.balance(0, -1), -2);
        due("balance", x.balance(1, 0), 101);
        due("balance", x.balance(1, 1), 99);
        due("balance", x.balance(2, 3), -3);
        due("balance", x.balance(MIN, 0), -3);
    }

    static void promise11And12Weight() {
        due("setWeight(3, 100)", x.setWeight(3, 100), -2);
        due("setWeight(-1, 1)", x.setWeight(-1, 1), -2);
        due("setWeight(0, 100)", x.setWeight(0, 100), -1);
        due("setWeight(0, -1)", x.setWeight(0, -1), -1);
        due("weight(0)", x.weight(0), 1);
        due("setWeight(0, 99)", x.setWeight(0, 99), 1);
        due("setWeight(0, 0)", x.setWeight(0, 0), 99);
        due("weight(0)", x.weight(0), 0);
        due("weight(1)", x.weight(1), 1);
        due("weight(3)", x.weight(3), -2);
        due("weight(MIN)", x.weight(MIN), -2);
        due("weight(MAX)", x.weight(MAX), -2);
    }

    static void promise13And14Level() {
        due("setLevel(3, 10)", x.setLevel(3, 10), -2);
        due("setLevel(-1, 1)", x.setLevel(-1, 1), -2);
        due("setLevel(0, 10)", x.setLevel(0, 10), -1);
        due("setLevel(0, -1)", x.setLevel(0, -1), -1);
        due("level(0)", x.level(0), 0);
        due("setLevel(0, 9)", x.setLevel(0, 9), 0);
        due("setLevel(0, 3)", x.setLevel(0, 3), 9);
        due("level(0)", x.level(0), 3);
        due("level(1)", x.level(1), 0);
        due("level(3)", x.level(3), -2);
        due("level(MIN)", x.level(MIN), -2);
    }

    static void promise15SetStatus() {
        due("setStatus(2)", x.setStatus(2), -1);
        due("setStatus(-1)", x.setStatus(-1), -1);
        due("setStatus(1)", x.setStatus(1), 0);
        due("setStatus(1)", x.setStatus(1), 1);
        due("setStatus(2)", x.setStatus(2), -1);
        due("setStatus(0)", x.setStatus(0), 1);
        due("setStatus(0)", x.setStatus(0), 0);
    }

    static void promise16IsAdmissible() {
        due("isAdmissible", x.isAdmissible(), 1);
        weights(1, 0, 1);
        due("equal levels", x.isAdmissible(), 0);
        levels(0, 1, 1);
        due("level as high as another", x.isAdmissible(), 0);
        levels(0, 2, 1);
        due("highest level", x.isAdmissible(), 1);
        weights(0, 0, 1);
        levels(3, 2, 1);
        due("two zeros", x.isAdmissible(), 0);
        weights(0, 0, 0);
        due("three zeros", x.isAdmissible(), 0);
        x.reset(1);
        x.setWeight(0, 0);
        due("one letter", x.isAdmissible(), 1);
    }

    static void promise17CompareSides() {
        due("compareSides(0)", x.compareSides(0), -3);
        rules("ab>ba", "a>bbb", "ba>a", "abc>abc", "ab>abc");
        due("compareSides(0)", x.compareSides(0), 1);
        due("compareSides(1)", x.compareSides(1), 0);
        due("compareSides(2)", x.compareSides(2), 2);
        due("compareSides(3)", x.compareSides(3), 1);
        due("compareSides(5)", x.compareSides(5), -3);
        due("compareSides(-1)", x.compareSides(-1), -3);
        levels(1, 0, 0);
        due("a before b, from the left", x.compareSides(0), 2);
        x.setStatus(1);
        due("a before b, from the right", x.compareSides(0), 0);
        levels(0, 1, 0);
        due("b before a, from the right", x.compareSides(0), 2);
        x.setStatus(0);
        due("b before a, from the left", x.compareSides(0), 0);
        weights(3, 1, 0);
        levels(0, 0, 0);
        due("equal weights, no pair decides, the longer one", x.compareSides(1), 0);
        due("prefix with a letter of no weight", x.compareSides(4), 0);
        levels(1, 0, 0);
        due("equal weights, the first pair decides", x.compareSides(1), 2);
        weights(2, 0, 1);
        levels(0, 0, 0);
        due("ba against a: longer", x.compareSides(2), 2);
        levels(1, 0, 0);
        due("ba against a: b is lower than a", x.compareSides(2), 0);
        x.setStatus(1);
        due("ba against a from the right: longer", x.compareSides(2), 2);
        weights(99, 99, 99);
        due("heavier", x.compareSides(2), 2);
    }

    static void promise18CompareWithInput() {
        due("empty with empty", x.compareWithInput(), 1);
        string("ab");
        type("ba");
        due("ab with ba", x.compareWithInput(), 1);
        due("clearInput", x.clearInput(), 0);
        due("ab with nothing", x.compareWithInput(), 2);
        type("abc");
        due("ab with abc", x.compareWithInput(), 0);
        for (String wrong : new String[] {"d", "a>b", "aaaaaaaaaaaaa", "A", "\u0000", "a "}) {
            type(wrong);
            due("ab with " + wrong, x.compareWithInput(), -5);
            due("clearInput", x.clearInput(), 0);
        }
        type("aaaaaaaaaaaa");
        due("ab with twelve letters", x.compareWithInput(), 0);
        levels(1, 0, 0);
        type("ba");
        due("ab with ba", x.compareWithInput(), 2);
        x.setStatus(1);
        type("ba");
        due("ab with ba from the right", x.compareWithInput(), 0);
        dueString("ab");
    }

    static void promise19FirstUnoriented() {
        due("without rules", x.firstUnoriented(), -6);
        rules("a>b");
        due("the first rule", x.firstUnoriented(), 0);
        x.removeRule(0);
        rules("aa>a", "ab>ba", "a>bb");
        due("equivalent is not oriented", x.firstUnoriented(), 1);
        levels(1, 0, 0);
        due("firstUnoriented", x.firstUnoriented(), 2);
        weights(3, 1, 1);
        due("firstUnoriented", x.firstUnoriented(), -6);
        weights(0, 1, 1);
        due("aa>a with weight 0 is oriented: longer", x.firstUnoriented(), 2);
    }

    static void promise20FindWeights() {
        due("findWeights(0)", x.findWeights(0), -1);
        due("findWeights(7)", x.findWeights(7), -1);
        due("findWeights(MIN)", x.findWeights(MIN), -1);
        weights(5, 5, 5);
        due("without rules", x.findWeights(1), 0);
        dueWeights(0, 0, 0);
        rules("a>b");
        due("a>b", x.findWeights(1), 1);
        dueWeights(1, 0, 0);
        rules("b>ccc");
        weights(7, 8, 9);
        due("a>b, b>ccc within 1", x.findWeights(1), -6);
        dueWeights(7, 8, 9);
        due("a>b, b>ccc", x.findWeights(2), 3);
        dueWeights(2, 1, 0);
        x.reset(2);
        rules("ab>aa");
        due("ab>aa", x.findWeights(6), 1);
        dueWeights(0, 1);
        rules("a>");
        due("ab>aa, a>", x.findWeights(6), 3);
        dueWeights(1, 2);
        x.reset(3);
        rules("bbbbbb>aaaaa", "a>ccc", "c>");
        due("many of one letter", x.findWeights(6), 9);
        dueWeights(4, 4, 1);
        due("within 3", x.findWeights(3), -6);
        x.reset(6);
        rules("a>b", "b>c", "c>d", "d>e", "e>f", "f>");
        due("within 5", x.findWeights(5), -6);
        due("within 6", x.findWeights(6), 21);
        dueWeights(6, 5, 4, 3, 2, 1);
    }

    static void promise21FindCertificate() {
        due("without rules", x.findCertificate(), -6);
        rules("ab>ba");
        due("ab>ba", x.findCertificate(), 1);
        rules("a>");
        due("ab>ba, a>", x.findCertificate(), 4);
        x.reset(3);
        rules("a>bb", "b>a");
        due("1, 1", x.findCertificate(), 5);
        x.reset(3);
        rules("aaa>b", "b>aa");
        due("aaa>b, b>aa", x.findCertificate(), -6);
        x.reset(3);
        rules("aaa>b", "bb>aaaaaa");
        due("two times the first", x.findCertificate(), 2 * 4 + 1);
        x.reset(3);
        rules("aaaa>b", "bbbb>a");
        due("none", x.findCertificate(), -6);
        x.reset(2);
        rules("aaa>bbb", "b>a");
        due("three times the second", x.findCertificate(), 7);
        x.reset(2);
        rules("aaaa>bbbb", "b>a");
        due("four times would be needed", x.findCertificate(), -6);
        x.reset(2);
        rules("a>bbb", "b>a");
        due("first one is the most significant", x.findCertificate(), 5);
        x.reset(2);
        rules("a>aab", "b>", "b>", "b>", "b>", "b>", "b>", "b>");
        due("eight rules", x.findCertificate(), 16384);
        x.reset(2);
        rules("b>", "b>", "b>", "b>", "b>", "b>", "b>", "b>b");
        due("eight rules, the last", x.findCertificate(), 1);
    }

    static void promise22FindLevels() {
        due("without rules", x.findLevels(), 0);
        levels(4, 5, 6);
        weights(1, 0, 1);
        due("without rules, one letter of no weight", x.findLevels(), 10);
        dueLevels(0, 1, 0);
        weights(0, 0, 1);
        levels(4, 5, 6);
        due("two letters of no weight", x.findLevels(), -6);
        dueLevels(4, 5, 6);
        weights(1, 1, 1);
        rules("ab>ba");
        due("ab>ba", x.findLevels(), 1);
        dueLevels(1, 0, 0);
        x.setStatus(1);
        due("ab>ba from the right", x.findLevels(), 10);
        dueLevels(0, 1, 0);
        x.setStatus(0);
        rules("b>c");
        due("ab>ba, b>c", x.findLevels(), 12);
        dueLevels(2, 1, 0);
        rules("c>a");
        due("round", x.findLevels(), -6);
        dueLevels(2, 1, 0);
        x.reset(6);
        rules("f>e", "e>d", "d>c", "c>b", "b>a");
        due("six letters", x.findLevels(), 543210);
        weights(1, 1, 1, 1, 1, 2);
        due("by weight", x.findLevels(), 43210);
        weights(2, 1, 1, 1, 1, 2);
        due("lighter left side", x.findLevels(), -6);
        x.reset(1);
        x.setWeight(0, 0);
        due("one letter", x.findLevels(), 0);
        rules("aa>a");
        due("aa>a without weight: longer", x.findLevels(), 0);
        rules("a>a");
        due("a>a", x.findLevels(), -6);
    }

    static void promise23FindOrder() {
        due("without rules", x.findOrder(), 1);
        dueWeights(0, 1, 1);
        dueLevels(1, 0, 0);
        x.reset(5);
        due("five letters", x.findOrder(), -8);
        x.reset(6);
        due("six letters", x.findOrder(), -8);
        x.reset(1);
        x.setWeight(0, 9);
        due("one letter", x.findOrder(), 1);
        dueWeights(0);
        x.reset(4);
        due("four letters", x.findOrder(), 1);
        dueWeights(0, 1, 1, 1);
        x.reset(3);
        // b and c can't both weigh nothing, and a weighs at least twice as much as b.
        rules("a>bb", "b>cc");
        due("a>bb, b>cc", x.findOrder(), 1);
        dueWeights(2, 1, 0);
        dueLevels(1, 0, 2);
        due("setStatus", x.setStatus(0), 0);
    }

    static void promise23WeightsAreAtMost2() {
        rules("a>bbb", "b>cc");
        due("a would have to weigh 3", x.findOrder(), -6);
        dueWeights(1, 1, 1);
        dueLevels(0, 0, 0);
    }

    static void promise23ChangesNothingWithoutAnOrder() {
        x.reset(4);
        rules("a>ab");
        x.setWeight(0, 7);
        x.setLevel(1, 6);
        x.setStatus(1);
        due("a>ab", x.findOrder(), -6);
        dueWeights(7, 1, 1, 1);
        dueLevels(0, 6, 0, 0);
        due("setStatus", x.setStatus(1), 1);
        x.reset(3);
        rules("a>bb", "b>cc", "c>");
        due("a chain down to nothing", x.findOrder(), 1);
        rules("cc>a");
        due("and round", x.findOrder(), -6);
        dueWeights(2, 1, 0);
    }

    static void promise23TriesStatusBeforeHeavierWeights() {
        x.reset(2);
        // With weights 0 and 1, a is above b, and only the last letters are greater on the left.
        rules("ba>ab");
        due("ba>ab", x.findOrder(), 1);
        dueWeights(0, 1);
        dueLevels(1, 0);
        due("status", x.setStatus(1), 1);
        x.reset(2);
        x.setStatus(1);
        rules("ab>ba");
        due("ab>ba", x.findOrder(), 1);
        dueWeights(0, 1);
        dueLevels(1, 0);
        due("status", x.setStatus(1), 0);
    }

    static void promise24ReachableLetters() {
        due("reachableLetters(3)", x.reachableLetters(3), -2);
        due("reachableLetters(-1)", x.reachableLetters(-1), -2);
        due("reachableLetters(0)", x.reachableLetters(0), 0);
        x.reset(6);
        rules("e>f", "d>e", "c>d", "b>c", "a>b");
        due("a chain against the order of the rules", x.reachableLetters(0), 62);
        due("its end", x.reachableLetters(5), 0);
        due("its middle", x.reachableLetters(3), 48);
        rules("fc>a", "b>");
        due("f", x.reachableLetters(5), 63);
        due("a", x.reachableLetters(0), 63);
        x.reset(3);
        rules("a>");
        due("an empty right side", x.reachableLetters(0), 0);
        rules("ab>a");
        due("itself", x.reachableLetters(0), 1);
        due("b leads to a", x.reachableLetters(1), 1);
        due("c", x.reachableLetters(2), 0);
    }

    static void promise25SetString() {
        due("setString", string("abc"), 3);
        for (String wrong : new String[] {"abd", "aaaaaaaaaaaaa", "a>b", " ", "\u007f", "aB"}) {
            due("setString " + wrong, string(wrong), -5);
            due("clearInput", x.clearInput(), 0);
            dueString("abc");
        }
        due("setString", string("abcabcabcabc"), 12);
        dueString("abcabcabcabc");
        due("setString", string(""), 0);
        dueString("");
        x.reset(6);
        due("setString", string("fedcba"), 6);
        dueString("fedcba");
        x.reset(1);
        due("setString", string("b"), -5);
    }

    static void promise26And27StringLetter() {
        due("stringLength", x.stringLength(), 0);
        due("stringLetter(0)", x.stringLetter(0), -6);
        string("bca");
        due("stringLength", x.stringLength(), 3);
        due("stringLetter(0)", x.stringLetter(0), 1);
        due("stringLetter(1)", x.stringLetter(1), 2);
        due("stringLetter(2)", x.stringLetter(2), 0);
        for (int wrong : new int[] {3, -1, MIN, MAX, 64}) due("stringLetter", x.stringLetter(wrong), -6);
    }

    static void promise28StringWeight() {
        due("empty", x.stringWeight(), 0);
        string("abcabcabcabc");
        due("twelve letters", x.stringWeight(), 12);
        weights(99, 99, 99);
        due("heaviest", x.stringWeight(), 1188);
        weights(0, 10, 7);
        due("mixed", x.stringWeight(), 68);
    }

    static void promise29Rewrite() {
        string("aab");
        due("rewrite(0, 0)", x.rewrite(0, 0), -3);
        rules("ab>cab", "a>", "b>bbbbbb");
        due("rewrite(3, 0)", x.rewrite(3, 0), -3);
        due("rewrite(-1, 99)", x.rewrite(-1, 99), -3);
        for (int wrong : new int[] {0, 2, 3, -1, MIN, MAX, 12, 13, -2147483643}) due("rewrite(0, wrong)", x.rewrite(0, wrong), -9);
        dueString("aab");
        due("rewrite(0, 1)", x.rewrite(0, 1), 4);
        dueString("acab");
        due("rewrite(1, 0)", x.rewrite(1, 0), 3);
        dueString("cab");
        due("rewrite(1, 1)", x.rewrite(1, 1), 2);
        dueString("cb");
        due("rewrite(2, 1)", x.rewrite(2, 1), 7);
        due("rewrite(2, 6)", x.rewrite(2, 6), 12);
        dueString("cbbbbbbbbbbb");
        due("too long", x.rewrite(2, 1), -9);
        due("too long", x.rewrite(2, 11), -9);
        dueString("cbbbbbbbbbbb");
        string("a");
        due("to nothing", x.rewrite(1, 0), 0);
        due("nothing left", x.rewrite(1, 0), -9);
        due("nothing left", x.rewrite(1, 12), -9);
    }

    static void promise30Normalize() {
        due("normalize(-1)", x.normalize(-1), -1);
        due("normalize(1001)", x.normalize(1001), -1);
        due("normalize(1000) without rules", x.normalize(1000), 0);
        string("abab");
        rules("ba>ab", "ab>c", "ab>a");
        due("normalize(0)", x.normalize(0), 0);
        dueString("abab");
        due("lowest position, lowest rule", x.normalize(1), 1);
        dueString("cab");
        due("to the end", x.normalize(1000), 1);
        dueString("cc");
        x.reset(2);
        rules("a>b", "b>a");
        string("a");
        due("for ever", x.normalize(1000), 1000);
        dueString("a");
        due("normalize(999)", x.normalize(999), 999);
        dueString("b");
        x.reset(3);
        rules("a>bbbb", "a>c");
        string("aaaaaaaaaaaa");
        due("too long: the next rule", x.normalize(2), 2);
        dueString("ccaaaaaaaaaa");
        x.reset(3);
        rules("a>bbbb", "c>");
        string("aaaaaaaaaaac");
        due("too long: the next place", x.normalize(1), 1);
        dueString("aaaaaaaaaaa");
        due("too long everywhere", x.normalize(5), 0);
    }

    static void promise31LongestDerivation() {
        due("without rules", x.longestDerivation(), 0);
        rules("a>b");
        string("aaaa");
        due("aaaa", x.longestDerivation(), 4);
        dueString("aaaa");
        rules("b>b");
        due("a step to itself", x.longestDerivation(), -6);
        x.reset(3);
        rules("a>b", "b>c");
        string("aaa");
        due("27 strings", x.longestDerivation(), 6);
        string("aaaa");
        due("81 strings", x.longestDerivation(), 8);
        string("aaaaa");
        due("243 strings", x.longestDerivation(), -7);
        rules("c>a");
        due("243 strings, round: too many comes first", x.longestDerivation(), -7);
        string("aaaa");
        due("round", x.longestDerivation(), -6);
        x.reset(3);
        rules("a>bc", "a>c", "bc>");
        string("aa");
        due("the longest of several", x.longestDerivation(), 4);
        x.reset(3);
        rules("c>a", "a>b", "b>a");
        string("c");
        due("round only later", x.longestDerivation(), -6);
    }

    static void promise31At200Strings() {
        x.reset(6);
        rules("ca>ac", "ed>de");
        string("cccaaaeeddd");
        due("20 times 10 strings", x.longestDerivation(), 9 + 6);
        // The last string alone has ccc before ddd.
        rules("cccddd>f");
        due("201 strings", x.longestDerivation(), -7);
        x.removeRule(2);
        due("20 times 10 strings", x.longestDerivation(), 15);
        rules("cccddd>cccddd");
        due("200 strings and a step to itself", x.longestDerivation(), -6);
        rulesFor200Strings();
        string("aafff");
        due("5 * 5 * 2 * 2 * 2 strings", x.longestDerivation(), 11);
        rules("eeeee>aafff");
        due("200 strings and back to the first", x.longestDerivation(), -6);
        rules("eeeee>");
        due("201 strings and back to the first", x.longestDerivation(), -7);
    }

    static void promise32FindLoop() {
        due("findLoop(0)", x.findLoop(0), -3);
        rules("ab>ba");
        due("no loop", x.findLoop(0), -6);
        due("findLoop(-1)", x.findLoop(-1), -3);
        due("findLoop(1)", x.findLoop(1), -3);
        rules("ba>aab");
        due("ab>ba>aab", x.findLoop(0), 2);
        due("rule of step 0", x.loopStep(0, 0), 0);
        due("position of step 0", x.loopStep(0, 1), 0);
        due("rule of step 1", x.loopStep(1, 0), 1);
        due("position of step 1", x.loopStep(1, 1), 0);
        due("no step 2", x.loopStep(2, 0), -6);
        due("ba>aab>aba", x.findLoop(1), 2);
        due("rule of step 0", x.loopStep(0, 0), 1);
        due("rule of step 1", x.loopStep(1, 0), 0);
        due("position of step 1", x.loopStep(1, 1), 1);
        x.reset(2);
        rules("a>a");
        due("the left side itself again", x.findLoop(0), 1);
        x.reset(3);
        rules("a>b", "b>c", "a>cc", "c>a");
        due("the shortest way, first found", x.findLoop(0), 2);
        due("rule of step 0", x.loopStep(0, 0), 2);
        due("rule of step 1", x.loopStep(1, 0), 3);
        due("position of step 1", x.loopStep(1, 1), 0);
    }

    static void promise32KeepsTheLoopWhenNoneIsFound() {
        rules("a>ba", "c>b");
        due("findLoop(0)", x.findLoop(0), 1);
        due("findLoop(1)", x.findLoop(1), -6);
        due("loopStep", x.loopStep(0, 0), 0);
        due("findLoop(7)", x.findLoop(7), -3);
        due("loopStep", x.loopStep(0, 0), 0);
        x.reset(5);
        rules("e>ee");
        due("findLoop(0)", x.findLoop(0), 1);
        rules("dd>aaaaaa", "a>b", "b>c");
        due("too many strings", x.findLoop(1), -7);
        due("loopStep", x.loopStep(0, 0), 0);
    }

    static void promise32At200Strings() {
        rulesFor200Strings();
        due("200 strings", x.findLoop(0), -6);
        rules("eeeee>");
        due("201 strings", x.findLoop(0), -7);
        due("no loop is stored", x.loopStep(0, 0), -6);
        rulesFor200Strings();
        rules("eeeee>aafff");
        due("from the 200th string back", x.findLoop(0), 12);
        due("loopStep(0, 0)", x.loopStep(0, 0), 0);
        due("loopStep(11, 0)", x.loopStep(11, 0), 6);
        due("loopStep(11, 1)", x.loopStep(11, 1), 0);
        due("loopStep(12, 1)", x.loopStep(12, 1), -6);
        rulesFor200Strings();
        rules("eeeee>aaffff");
        due("the string that closes a loop is not one too many", x.findLoop(0), 12);
    }

    static void promise32TheLoopIsADerivation() {
        rulesFor200Strings();
        rules("eeeee>eaafff");
        int steps = x.findLoop(0);
        due("steps", steps, 12);
        string("aafff");
        for (int step = 0; step < steps; step++) {
            due("step " + step, x.rewrite(x.loopStep(step, 0), x.loopStep(step, 1)) > 0 ? 1 : 0, 1);
        }
        dueString("eaafff");
    }

    static void promise33LoopStep() {
        due("loopStep(0, 2)", x.loopStep(0, 2), -1);
        due("loopStep(0, -1)", x.loopStep(0, -1), -1);
        due("loopStep(0, 0)", x.loopStep(0, 0), -6);
        rules("ab>cb", "c>ba", "bab>bbabb");
        due("ab>cb>bab", x.findLoop(0), 2);
        due("loopStep(0, 0)", x.loopStep(0, 0), 0);
        due("loopStep(1, 0)", x.loopStep(1, 0), 1);
        due("loopStep(1, 1)", x.loopStep(1, 1), 0);
        due("loopStep(2, 1)", x.loopStep(2, 1), -6);
        due("loopStep(-1, 0)", x.loopStep(-1, 0), -6);
        due("loopStep(MIN, 1)", x.loopStep(MIN, 1), -6);
        due("loopStep(MAX, 1)", x.loopStep(MAX, 1), -6);
        due("loopStep(MAX, 2)", x.loopStep(MAX, 2), -1);
    }

    static void promise34Improve() {
        due("improve(0)", x.improve(0), -1);
        due("improve(101)", x.improve(101), -1);
        due("improve(100) without rules", x.improve(100), 0);
        rules("aab>bba");
        due("improve(1)", x.improve(1), 0);
        due("approximateWeight(0)", x.approximateWeight(0), 1125000);
        due("approximateWeight(1)", x.approximateWeight(1), 875000);
        due("approximateWeight(2)", x.approximateWeight(2), 1000000);
        due("improve(1)", x.improve(1), 1);
        due("margin is 0.5", x.margin(0), 500000);
        due("no change at 0.5", x.improve(100), 1);
        due("margin is 0.5", x.margin(0), 500000);
        x.reset(2);
        rules("a>bbbbbb");
        due("improve(2)", x.improve(2), 1);
        due("below 0 becomes 0", x.approximateWeight(1), 0);
        due("approximateWeight(0)", x.approximateWeight(0), 1250000);
        x.reset(3);
        rules("a>b", "b>a");
        due("the second sees what the first changed", x.improve(1), 0);
        due("approximateWeight(0)", x.approximateWeight(0), 1000000);
        due("approximateWeight(1)", x.approximateWeight(1), 1000000);
    }

    static void promise35And36ApproximateWeight() {
        due("no letter", x.setApproximateWeight(3, -1, 0), -2);
        due("no letter", x.setApproximateWeight(-1, 1, 1), -2);
        due("numerator -1", x.setApproximateWeight(0, -1, 1), -1);
        due("numerator 1000001", x.setApproximateWeight(0, 1000001, 1), -1);
        due("denominator 0", x.setApproximateWeight(0, 1, 0), -1);
        due("denominator 1000001", x.setApproximateWeight(0, 1, 1000001), -1);
        due("denominator -1", x.setApproximateWeight(0, 1, -1), -1);
        due("as before", x.setApproximateWeight(0, 5, 5), 0);
        due("1/3", x.setApproximateWeight(0, 1, 3), 1);
        due("1/3 again", x.setApproximateWeight(0, 2, 6), 0);
        due("approximateWeight", x.approximateWeight(0), (long) ((double) (1f / 3f) * 1000000.0));
        due("most", x.setApproximateWeight(1, 1000000, 1), 1);
        due("approximateWeight", x.approximateWeight(1), 1000000000000L);
        due("least", x.setApproximateWeight(1, 1, 1000000), 1);
        due("approximateWeight", x.approximateWeight(1), (long) ((double) (1f / 1000000f) * 1000000.0));
        due("zero", x.setApproximateWeight(1, 0, 7), 1);
        due("zero again", x.setApproximateWeight(1, 0, 1), 0);
        due("approximateWeight", x.approximateWeight(1), 0);
        due("0.7", x.setApproximateWeight(2, 7, 10), 1);
        due("approximateWeight", x.approximateWeight(2), 699999);
        due("approximateWeight(3)", x.approximateWeight(3), Long.MIN_VALUE);
        due("approximateWeight(-1)", x.approximateWeight(-1), Long.MIN_VALUE);
    }

    static void promise37Margin() {
        due("margin(0)", x.margin(0), Long.MIN_VALUE);
        rules("aab>bcc");
        due("margin(0)", x.margin(0), 0);
        x.setApproximateWeight(0, 1, 3);
        due("margin(0)", x.margin(0), (long) ((double) (2f * (1f / 3f) + -2f) * 1000000.0));
        due("margin(1)", x.margin(1), Long.MIN_VALUE);
        due("margin(-1)", x.margin(-1), Long.MIN_VALUE);
        x.reset(3);
        rules("ac>b");
        x.setApproximateWeight(0, 1000000, 1);
        x.setApproximateWeight(1, 1000000, 1);
        x.setApproximateWeight(2, 1, 100);
        due("in order", x.margin(0), 9999);
        x.reset(3);
        rules("ab>c");
        x.setApproximateWeight(0, 1, 100);
        x.setApproximateWeight(1, 1000000, 1);
        x.setApproximateWeight(2, 1000000, 1);
        due("in float arithmetic the small one is lost", x.margin(0), 0);
    }

    static void promise38RoundWeights() {
        due("roundWeights(0)", x.roundWeights(0), -1);
        due("roundWeights(101)", x.roundWeights(101), -1);
        due("without rules", x.roundWeights(100), 0);
        dueWeights(99, 99, 99);
        x.setApproximateWeight(0, 1, 2);
        x.setApproximateWeight(1, 3, 2);
        x.setApproximateWeight(2, 5, 2);
        rules("b>c", "b>a", "bb>ca", "c>c");
        due("halves go to even", x.roundWeights(1), 2);
        dueWeights(0, 2, 2);
        due("roundWeights(2)", x.roundWeights(2), 1);
        dueWeights(1, 3, 5);
        x.setApproximateWeight(0, 197, 2);
        x.setApproximateWeight(1, 9851, 100);
        x.setApproximateWeight(2, 1000000, 1);
        x.roundWeights(1);
        dueWeights(98, 99, 99);
        x.setApproximateWeight(0, 499, 1000);
        x.setApproximateWeight(1, 501, 1000);
        x.setApproximateWeight(2, 0, 1);
        x.roundWeights(1);
        dueWeights(0, 1, 0);
        due("approximateWeight stays", x.approximateWeight(2), 0);
    }

    static void promise39Allocate() {
        due("slot 4", x.allocate(4, 0, -1), -1);
        due("slot -1", x.allocate(-1, 0, 1), -1);
        due("type 4", x.allocate(0, 4, -1), -1);
        due("type -1", x.allocate(0, -1, 1), -1);
        due("size 41", x.allocate(0, 0, 41), -1);
        due("size MAX", x.allocate(0, 0, MAX), -1);
        due("size -1", x.allocate(0, 0, -1), -14);
        due("size MIN", x.allocate(0, 3, MIN), -14);
        due("still empty", x.release(0), 0);
        due("size 0", x.allocate(0, 0, 0), 0);
        due("held", x.release(0), 1);
        for (int type = 0; type < 4; type++) {
            due("size 40", x.allocate(type, type, 40), 40);
            due("element", x.element(type, 39), 0);
            x.putElement(type, 39, 5);
            due("element", x.element(type, 39), 5);
            due("a wrong size leaves the old array", x.allocate(type, type, -1), -14);
            due("element", x.element(type, 39), 5);
            due("again", x.allocate(type, type, 40), 40);
            due("filled with 0", x.element(type, 39), 0);
        }
    }

    static void promise40Release() {
        due("release(-1)", x.release(-1), -1);
        due("release(4)", x.release(4), -1);
        due("release(2)", x.release(2), 0);
        x.allocate(2, 1, 3);
        due("release(2)", x.release(2), 1);
        due("release(2)", x.release(2), 0);
        due("putElement", x.putElement(2, 0, 1), -11);
    }

    static void promise41PutElement() {
        due("slot -1", x.putElement(-1, 0, 0), -1);
        due("slot 4", x.putElement(4, 0, 0), -1);
        due("empty", x.putElement(0, -1, 0), -11);
        for (int type = 0; type < 4; type++) x.allocate(type, type, 2);
        for (int slot = 0; slot < 4; slot++) {
            due("index -1", x.putElement(slot, -1, 0), -13);
            due("index 2", x.putElement(slot, 2, 0), -13);
            due("index MAX", x.putElement(slot, MAX, 0), -13);
            due("put", x.putElement(slot, 1, (1L << 53) + 1), 1);
            due("neighbour", x.element(slot, 0), 0);
        }
        due("int", x.element(0, 1), 1);
        due("long", x.element(1, 1), (1L << 53) + 1);
        due("float", x.element(2, 1), 1L << 53);
        due("double", x.element(3, 1), 1L << 53);
        x.putElement(0, 0, 0x80000000L);
        due("int wraps", x.element(0, 0), MIN);
        x.putElement(0, 0, Long.MIN_VALUE);
        due("int wraps", x.element(0, 0), 0);
        x.putElement(2, 0, Long.MAX_VALUE);
        due("float", x.element(2, 0), Long.MAX_VALUE);
        x.putElement(1, 0, Long.MIN_VALUE);
        due("long", x.element(1, 0), Long.MIN_VALUE);
    }

    static void promise42DivideElement() {
        due("slot -1", x.divideElement(-1, 0, 1), -1);
        due("slot 4", x.divideElement(4, 0, 1), -1);
        due("empty", x.divideElement(0, -1, 1), -11);
        x.allocate(0, 0, 1);
        x.allocate(1, 1, 1);
        x.allocate(2, 2, 3);
        x.allocate(3, 3, 3);
        due("ints", x.divideElement(0, 5, 1), -12);
        due("longs", x.divideElement(1, 5, 1), -12);
        for (int slot = 2; slot < 4; slot++) {
            due("index 3", x.divideElement(slot, 3, 1), -13);
            due("index -1", x.divideElement(slot, -1, 0), -13);
            x.putElement(slot, 0, 7);
            due("7 / -2", x.divideElement(slot, 0, -2), 1);
            due("-3.5", x.element(slot, 0), -3);
            due("-3.5 / 0", x.divideElement(slot, 0, 0), 1);
            due("below all", x.element(slot, 0), Long.MIN_VALUE);
            due("/ -1", x.divideElement(slot, 0, -1), 1);
            due("above all", x.element(slot, 0), Long.MAX_VALUE);
            due("/ 0", x.divideElement(slot, 0, 0), 1);
            due("above all", x.element(slot, 0), Long.MAX_VALUE);
            due("0 / 0", x.divideElement(slot, 1, 0), 1);
            due("NaN", x.element(slot, 1), 0);
            due("NaN / 5", x.divideElement(slot, 1, 5), 1);
            due("NaN", x.element(slot, 1), 0);
            due("NaN / 0", x.divideElement(slot, 1, 0), 1);
            due("NaN stays NaN", x.element(slot, 1), 0);
            x.putElement(slot, 1, 6);
            due("a number again", x.element(slot, 1), 6);
            due("6 / 4", x.divideElement(slot, 1, 4), 1);
            due("1.5", x.element(slot, 1), 1);
            // Minus zero is zero, too.
            due("0 / -3", x.divideElement(slot, 2, -3), 1);
            due("-0 / 0", x.divideElement(slot, 2, 0), 1);
            due("NaN", x.element(slot, 2), 0);
        }
        x.putElement(2, 0, 1L << 40);
        due("float divisor", x.divideElement(2, 0, 16777217), 1);
        due("divisor is rounded to float", x.element(2, 0), 65536);
        x.putElement(3, 0, 16777217L * 16777217L);
        due("double divisor", x.divideElement(3, 0, 16777217), 1);
        due("divisor is not rounded", x.element(3, 0), 16777217);
    }

    static void promise42UnderflowThenDivideByZero() {
        x.allocate(0, 2, 1);
        x.putElement(0, 0, 1);
        for (int i = 0; i < 6; i++) x.divideElement(0, 0, MAX);
        due("so small that it is zero", x.divideElement(0, 0, 0), 1);
        due("then 0 / 0 is NaN", x.element(0, 0), 0);
        x.allocate(0, 3, 1);
        x.putElement(0, 0, 1);
        for (int i = 0; i < 6; i++) x.divideElement(0, 0, MAX);
        due("not yet zero in double", x.divideElement(0, 0, 0), 1);
        due("above all", x.element(0, 0), Long.MAX_VALUE);
    }

    static void promise43Element() {
        due("slot -1", x.element(-1, 0), Long.MIN_VALUE);
        due("slot 4", x.element(4, 0), Long.MIN_VALUE);
        due("empty", x.element(0, 0), Long.MIN_VALUE);
        x.allocate(0, 3, 2);
        due("index 2", x.element(0, 2), Long.MIN_VALUE);
        due("index -1", x.element(0, -1), Long.MIN_VALUE);
        due("index MIN", x.element(0, MIN), Long.MIN_VALUE);
        due("zero", x.element(0, 1), 0);
        x.putElement(0, 1, -5);
        x.divideElement(0, 1, 2);
        due("-2.5 drops its fraction", x.element(0, 1), -2);
    }

    static void promise44CopyElements() {
        due("slots first", x.copyElements(-1, 0, 9, 0, 0), -1);
        due("source 4", x.copyElements(4, 0, 0, 0, 0), -1);
        due("target 4", x.copyElements(0, 0, 4, 0, 0), -1);
        due("both empty", x.copyElements(0, 0, 1, 0, 0), -11);
        x.allocate(0, 0, 5);
        due("target empty", x.copyElements(0, -1, 1, 0, 0), -11);
        due("source empty", x.copyElements(1, -1, 0, 0, 0), -11);
        x.allocate(1, 1, 5);
        due("types differ", x.copyElements(0, -1, 1, 0, 0), -12);
        x.allocate(1, 0, 3);
        for (int i = 0; i < 5; i++) x.putElement(0, i, i + 1);
        due("copy", x.copyElements(0, 1, 1, 0, 3), 3);
        for (int i = 0; i < 3; i++) due("element", x.element(1, i), i + 2);
        due("end of the target", x.copyElements(0, 0, 1, 1, 3), -13);
        due("end of the source", x.copyElements(0, 3, 1, 0, 3), -13);
        due("count -1", x.copyElements(0, 0, 1, 0, -1), -13);
        due("count MIN", x.copyElements(0, 0, 1, 0, MIN), -13);
        due("count MAX", x.copyElements(0, 1, 1, 1, MAX), -13);
        due("source index MAX", x.copyElements(0, MAX, 1, 0, 1), -13);
        due("target index MAX", x.copyElements(0, 0, 1, MAX, 1), -13);
        due("source index -1", x.copyElements(0, -1, 1, 0, 1), -13);
        due("target index -1", x.copyElements(0, 0, 1, -1, 1), -13);
        for (int i = 0; i < 3; i++) due("element", x.element(1, i), i + 2);
        due("nothing, at the ends", x.copyElements(0, 5, 1, 3, 0), 0);
        due("nothing, beyond an end", x.copyElements(0, 6, 1, 0, 0), -13);
        due("nothing, beyond an end", x.copyElements(0, 0, 1, 4, 0), -13);
        due("within, upwards", x.copyElements(0, 0, 0, 1, 4), 4);
        int[] up = {1, 1, 2, 3, 4};
        for (int i = 0; i < 5; i++) due("element", x.element(0, i), up[i]);
        due("within, downwards", x.copyElements(0, 2, 0, 0, 3), 3);
        int[] down = {2, 3, 4, 3, 4};
        for (int i = 0; i < 5; i++) due("element", x.element(0, i), down[i]);
    }

    static void promise44CopiesWhatIsNoNumber() {
        for (int type = 2; type < 4; type++) {
            x.allocate(0, type, 2);
            x.allocate(1, type, 2);
            x.putElement(0, 1, 3);
            x.putElement(1, 0, 4);
            x.divideElement(0, 0, 0);
            due("copy NaN and 3", x.copyElements(0, 0, 1, 0, 2), 2);
            due("NaN", x.element(1, 0), 0);
            x.divideElement(1, 0, -1);
            x.divideElement(1, 0, 0);
            due("still NaN", x.element(1, 0), 0);
            due("3", x.element(1, 1), 3);
            due("copy 3 over NaN", x.copyElements(1, 1, 0, 0, 1), 1);
            due("3", x.element(0, 0), 3);
            x.divideElement(0, 0, 0);
            due("3 / 0", x.element(0, 0), Long.MAX_VALUE);
            x.divideElement(0, 1, 0);
            x.allocate(0, type, 2);
            x.putElement(0, 0, 5);
            x.divideElement(0, 0, 0);
            due("a new array has no NaN", x.element(0, 0), Long.MAX_VALUE);
        }
    }

    static void promise45CheckCertificate() {
        due("slot -1", x.checkCertificate(-1), -1);
        due("slot 4", x.checkCertificate(4), -1);
        due("empty", x.checkCertificate(0), -11);
        for (int type = 1; type < 4; type++) {
            x.allocate(0, type, 1);
            due("type", x.checkCertificate(0), -12);
        }
        x.allocate(0, 0, 3);
        x.putElement(0, 0, 1);
        due("without rules there is none", x.checkCertificate(0), 0);
        rules("ab>ba", "b>");
        due("1, 0", x.checkCertificate(0), 1);
        x.putElement(0, 2, -1);
        due("a further element", x.checkCertificate(0), 1);
        x.putElement(0, 0, 0);
        due("zeros", x.checkCertificate(0), 0);
        x.putElement(0, 2, 1);
        due("zeros, but for a further element", x.checkCertificate(0), 0);
        x.putElement(0, 0, 1);
        x.putElement(0, 1, 1);
        due("1, 1", x.checkCertificate(0), 0);
        x.putElement(0, 1, -1);
        due("1, -1", x.checkCertificate(0), 0);
        x.allocate(0, 0, 1);
        due("too short", x.checkCertificate(0), -13);
        x.reset(2);
        rules("a>");
        x.putElement(0, 0, 1);
        due("the first rule counts", x.checkCertificate(0), 0);
        rules("b>ba");
        x.allocate(0, 0, 2);
        x.putElement(0, 1, 1);
        due("0, 1", x.checkCertificate(0), 1);
        x.putElement(0, 0, 1);
        due("1, 1", x.checkCertificate(0), 1);
        x.putElement(0, 0, 2);
        due("2, 1", x.checkCertificate(0), 0);
        x.reset(2);
        rules("aaaaaa>", "b>aaaaaa", "b>aaaaaa");
        x.allocate(0, 0, 3);
        for (int i = 0; i < 3; i++) x.putElement(0, i, MAX);
        due("b counts", x.checkCertificate(0), 0);
        x.reset(1);
        rules("aaaaaa>", "aaaaaa>", "a>aa");
        due("large integers, sum above 0", x.checkCertificate(0), 0);
        x.reset(1);
        rules("aaaaaa>a", "a>aaaaaa", "a>aa");
        due("large integers, sum below 0", x.checkCertificate(0), 1);
    }

    static void promise46And47Snapshot() {
        due("restore", x.restore(), -6);
        rules("a>ba", "b>c");
        string("abc");
        weights(2, 3, 4);
        levels(5, 6, 7);
        x.setStatus(1);
        x.setApproximateWeight(0, 1, 2);
        x.findLoop(0);
        due("snapshot", x.snapshot(), 2);
        due("loop stays at a snapshot", x.loopStep(0, 0), 0);
        x.allocate(0, 0, 1);
        x.putElement(0, 0, 8);
        x.removeRule(0);
        rules("c>ab");
        x.normalize(1);
        weights(9, 9, 9);
        levels(1, 1, 1);
        x.setStatus(0);
        x.setApproximateWeight(0, 1, 1);
        x.findLoop(0);
        type("ab");
        due("restore", x.restore(), 2);
        due("ruleLetter", x.ruleLetter(0, 0, 0), 0);
        due("ruleLetter", x.ruleLetter(1, 1, 0), 2);
        due("balance", x.balance(0, 1), 99);
        dueWeights(2, 3, 4);
        dueLevels(5, 6, 7);
        due("setStatus", x.setStatus(1), 1);
        due("approximateWeight", x.approximateWeight(0), 500000);
        dueString("abc");
        due("the loop is gone", x.loopStep(0, 0), -6);
        due("the buffer stays", x.clearInput(), 2);
        due("the array stays", x.element(0, 0), 8);
        x.reset(6);
        x.setWeight(0, 77);
        due("again", x.restore(), 2);
        due("letters", x.letters(), 3);
        dueWeights(2, 3, 4, -2);
        x.reset(5);
        due("a new snapshot", x.snapshot(), 0);
        x.reset(2);
        due("restore", x.restore(), 0);
        due("letters", x.letters(), 5);
        dueString("");
    }

    static void promise47WithoutSnapshotKeepsAll() {
        rules("a>ba");
        x.findLoop(0);
        due("restore", x.restore(), -6);
        due("ruleCount", x.ruleCount(), 1);
        due("loopStep", x.loopStep(0, 0), 0);
    }
}
