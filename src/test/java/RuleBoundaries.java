/** The boundary cases of promises 1 to 19: the alphabet, the input buffer, the rules, the weights and levels, comparing. */
final class RuleBoundaries extends Sentences {
    static void newObject() {
        says(1, "Creates an analyser with 3 letters.");
        due("letters", x.letters(), 3);
        due("c", x.weight(2), 1);
        due("d", x.weight(3), -2);
    }

    static void resetDeletes() {
        says(2, "All rules are deleted, the current string becomes empty, and no loop is stored.");
        eightRules();
        x.removeRule(7);
        storeLoop();
        string("aaaaaaaaaaaa");
        due("reset to as many letters", x.reset(3), 3);
        due("ruleCount", x.ruleCount(), 0);
        due("compareSides", x.compareSides(0), -3);
        due("stringLength", x.stringLength(), 0);
        due("stringLetter", x.stringLetter(0), -6);
        dueLoop(false);
        due("the first rule again", rule("a>b"), 0);
        due("its balance", x.balance(0, 0), 101);
    }

    static void resetStartsAnew() {
        says(2, "All weights and approximate weights become 1, all levels 0, and the status 0.");
        fresh(6);
        weights(9, 8, 7, 6, 5, 0);
        levels(9, 8, 7, 6, 5, 4);
        for (int k = 0; k < 6; k++) x.setApproximateWeight(k, 3, 2);
        x.setStatus(1);
        // The letters that are gone in between come back new, too.
        due("reset(1)", x.reset(1), 6);
        dueWeights(1, -2);
        due("reset(6)", x.reset(6), 1);
        dueWeights(1, 1, 1, 1, 1, 1, -2);
        dueLevels(0, 0, 0, 0, 0, 0, -2);
        for (int k = 0; k < 6; k++) due("approximateWeight", x.approximateWeight(k), 1000000);
        due("setStatus", x.setStatus(0), 0);
    }

    static void resetKeeps() {
        says(2, "The input buffer, the array slots and the snapshot keep their content.");
        rules("a>b");
        string("ca");
        x.snapshot();
        x.append('a', 40);
        for (int slot = 0; slot < 4; slot++) fill(slot, slot, 5, slot);
        due("reset", x.reset(1), 3);
        due("append to the full buffer", x.append('a', 1), -4);
        for (int slot = 0; slot < 4; slot++) due("slot", array(slot), "5 " + slot);
        due("clearInput", x.clearInput(), 40);
        due("restore", x.restore(), 1);
        due("letters", x.letters(), 3);
        dueString("ca");
        fresh();
        x.reset(2);
        due("restore without a snapshot", x.restore(), -6);
    }

    static void resetRange() {
        says(2, "`letters`: the number of letters, 1 to 6");
        due("reset(1)", x.reset(1), 3);
        due("letters", x.letters(), 1);
        due("reset(6)", x.reset(6), 1);
        due("letters", x.letters(), 6);
        due("reset(6)", x.reset(6), 6);
    }

    static void resetRefused() {
        says(2, "BAD_ARGUMENT if the number is out of range.");
        storeLoop();
        string("ab");
        weights(4, 5, 6);
        levels(1, 2, 3);
        x.setApproximateWeight(1, 2, 1);
        x.setStatus(1);
        dueEach("reset", x::reset, -1, 0, 7, -1, 8, MIN, MAX);
        due("letters", x.letters(), 3);
        due("ruleCount", x.ruleCount(), 1);
        dueString("ab");
        dueLoop(true);
        dueWeights(4, 5, 6, -2);
        dueLevels(1, 2, 3, -2);
        due("approximateWeight", x.approximateWeight(1), 2000000);
        due("setStatus", x.setStatus(1), 1);
    }

    static void appendOneOrMore() {
        says(4, "Appends a byte to the input buffer one or more times.");
        due("once", x.append('a', 1), 1);
        due("twice", x.append('b', 2), 3);
        due("nine times", x.append('c', 9), 12);
        due("setString", x.setString(), 12);
        dueString("abbccccccccc");
    }

    static void appendValues() {
        says(4, "`value`: the byte, 0 to 127");
        due("0", x.append(0, 1), 1);
        due("127", x.append(127, 1), 2);
        dueEach("append", value -> x.append(value, 1), -1, -1, 128, 97 + 256, 97 - 256, MIN, MAX);
        due("clearInput", x.clearInput(), 2);
    }

    static void appendCounts() {
        says(4, "`count`: how often it is appended, 1 to 40");
        dueEach("append", count -> x.append('a', count), -1, 0, -1, 41, MIN, MAX);
        due("clearInput", x.clearInput(), 0);
        due("40", x.append('a', 40), 40);
        due("clearInput", x.clearInput(), 40);
        due("1", x.append('a', 1), 1);
    }

    static void appendChecksArgumentsFirst() {
        says(4, "BAD_ARGUMENT if an argument is out of range (checked first);");
        x.append('a', 40);
        due("too full, too", x.append('a', 1), -4);
        due("value 128", x.append(128, 1), -1);
        due("value -1", x.append(-1, 40), -1);
        due("count 0", x.append('a', 0), -1);
        due("count 41", x.append('a', 41), -1);
        due("count MAX", x.append('a', MAX), -1);
        due("both", x.append(MIN, MIN), -1);
        due("clearInput", x.clearInput(), 40);
    }

    static void appendFull() {
        says(4, "FULL if the buffer would hold more than 40 bytes, in which case nothing is appended.");
        for (int held = 1; held <= 40; held++) {
            fresh();
            x.append('a', held);
            due("one too many after " + held, x.append('b', 41 - held), -4);
            due("40 after " + held, x.append('b', 40), -4);
            if (held < 40) due("just as many as fit after " + held, x.append('c', 40 - held), 40);
            due("clearInput", x.clearInput(), 40);
        }
        x.append('a', 12);
        due("29 after 12", x.append('b', 29), -4);
        due("setString", x.setString(), 12);
        dueString("aaaaaaaaaaaa");
    }

    static void clearedInput() {
        says(5, "Empties the input buffer.");
        x.append('a', 40);
        x.clearInput();
        due("append", x.append('b', 40), 40);
        x.clearInput();
        due("setString", x.setString(), 0);
        says(5, "Returns the number of bytes it held.");
        due("an empty one", x.clearInput(), 0);
        x.append('a', 1);
        due("one", x.clearInput(), 1);
        x.append('a', 40);
        due("a full one", x.clearInput(), 40);
        due("an empty one", x.clearInput(), 0);
    }

    static void ruleText() {
        says(6, "The input buffer must hold the left side, the character \">\" and the right side, without spaces.");
        String[] wrong = {"", "a", "ab", ">", ">a", "<a", "a<b", "a=b", "a->b", "a>>b", ">a>b", "a>b>", "a>b>c", " a>b", "a >b", "a> b", "a>b ",
            "a>\u0000", "\u0000a>b", "a>b\u0000", "a>b\u007f", "a>b\n", "?", "aaaaaaaaaaaa"};
        for (String text : wrong) due("rule '" + text + "'", rule(text), -5);
        due("ruleCount", x.ruleCount(), 0);
        due("the shortest", rule("a>"), 0);
        due("the longest", rule("abcabc>cbacba"), 1);
        due("both sides the same", rule("a>a"), 2);
        due("the same rule again", rule("a>a"), 3);
    }

    static void ruleLetters() {
        says(6, "Both sides consist of letters that exist.");
        for (String text : new String[] {"d>a", "a>d", "A>a", "a>A", "`>a", "a>{", "aad>a", "a>aad", "a>f", "1>a"}) due(text, rule(text), -5);
        due("the last letter", rule("c>c"), 0);
        x.reset(6);
        due("f", rule("f>f"), 0);
        due("g", rule("g>f"), -5);
        x.reset(1);
        due("a", rule("a>aa"), 0);
        due("b", rule("b>a"), -5);
    }

    static void ninthRule() {
        says(6, "FULL if there are 8 rules (checked first);");
        eightRules();
        for (String text : new String[] {"a>b", "a>d", "", "aaaaaaa>"}) {
            due("rule '" + text + "'", rule(text), -4);
            due("clearInput", x.clearInput(), 0);
        }
        due("ruleCount", x.ruleCount(), 8);
        due("the eighth is as before", x.ruleLetter(7, 0, 1), 0);
        due("the eighth is as before", x.ruleLetter(7, 0, 2), -6);
        due("removeRule", x.removeRule(3), 7);
        due("room again", rule("c>c"), 7);
        due("full again", rule("c>c"), -4);
    }

    static void wrongRule() {
        says(6, "BAD_INPUT if the text is not such a rule.");
        rules("a>b");
        due("no left side", rule(">b"), -5);
        due("left side too long", rule("bbbbbbb>b"), -5);
        due("right side too long", rule("b>bbbbbbb"), -5);
        due("a buffer that is full", rule("a>" + "b".repeat(38)), -5);
        due("nothing", x.addRule(), -5);
        due("ruleCount", x.ruleCount(), 1);
        due("rule 1", x.balance(1, 0), -3);
        due("the next number", rule("b>c"), 1);
        // A refused text leaves nothing behind that a later, shorter one could read.
        due("long", rule("aaaaaaa>bbbbbbb"), -5);
        due("short", rule("a"), -5);
        due("shorter than what was there", rule("c>"), 2);
        due("its right side", x.ruleLetter(2, 1, 0), -6);
    }

    static void removedRules() {
        says(7, "The rules with higher numbers are renumbered.");
        for (int removed = 0; removed < 8; removed++) {
            fresh();
            eightRules();
            due("removeRule", x.removeRule(removed), 7);
            for (int r = 0; r < 7; r++) {
                int was = r < removed ? r : r + 1;
                due("length of the left side", leftLength(r), was % 6 + 1);
                due("balance of a", x.balance(r, 0), 101 + was % 6);
                due("balance of b", x.balance(r, 1), 99);
            }
            due("no rule 7", x.balance(7, 0), -3);
        }
        says(7, "A stored loop is discarded.");
        storeLoop();
        rules("c>b");
        due("a rule that is not in the loop", x.removeRule(1), 1);
        dueLoop(false);
        due("findLoop", x.findLoop(0), 1);
        due("the rule of the loop", x.removeRule(0), 0);
        dueLoop(false);
    }

    private static int leftLength(int rule) {
        int length = 0;
        while (length < 7 && x.ruleLetter(rule, 0, length) >= 0) length++;
        return length;
    }

    static void removedNoRule() {
        says(7, "NO_SUCH_RULE.");
        dueEach("removeRule without rules", x::removeRule, -3, 0, -1, 1, 7, MIN, MAX);
        storeLoop();
        rules("b>c");
        dueEach("removeRule", x::removeRule, -3, 2, -1, 8, MIN, MAX);
        due("ruleCount", x.ruleCount(), 2);
        dueLoop(true);
        due("the last", x.removeRule(1), 1);
        due("the only one", x.removeRule(0), 0);
        due("and once more", x.removeRule(0), -3);
    }

    static void countedRules() {
        says(8, "Returns the number of rules.");
        due("none", x.ruleCount(), 0);
        eightRules();
        due("eight", x.ruleCount(), 8);
        x.addRule();
        due("not nine", x.ruleCount(), 8);
        for (int left = 7; left >= 0; left--) {
            x.removeRule(0);
            due("ruleCount", x.ruleCount(), left);
        }
    }

    static void letterOfARule() {
        says(9, "NO_SUCH_RULE (checked first);");
        due("everything wrong", x.ruleLetter(0, 2, -1), -3);
        rules("abc>c", "a>");
        dueEach("rule, with a wrong side", rule -> x.ruleLetter(rule, 2, 0), -3, -1, 2, 8, MIN, MAX);
        dueEach("rule, with a wrong position", rule -> x.ruleLetter(rule, 0, 9), -3, -1, 2, 8, MIN, MAX);
        says(9, "BAD_ARGUMENT if the side is out of range (checked second);");
        rules("abc>c");
        dueEach("side", side -> x.ruleLetter(0, side, 0), -1, -1, 2, MIN, MAX);
        dueEach("side, with a wrong position", side -> x.ruleLetter(0, side, 9), -1, -1, 2, MIN, MAX);
        due("side 0", x.ruleLetter(0, 0, 0), 0);
        due("side 1", x.ruleLetter(0, 1, 0), 2);
        says(9, "NONE if there is no such position.");
        rules("abcabc>cbacba", "a>", "b>c");
        due("last on the left", x.ruleLetter(0, 0, 5), 2);
        due("last on the right", x.ruleLetter(0, 1, 5), 0);
        dueEach("left position", position -> x.ruleLetter(0, 0, position), -6, -1, 6, 12, 64, MIN, MAX);
        dueEach("right position", position -> x.ruleLetter(0, 1, position), -6, -1, 6, 12, 64, MIN, MAX);
        dueEach("empty right side", position -> x.ruleLetter(1, 1, position), -6, -1, 0, 1, MIN, MAX);
        dueEach("sides of one letter", position -> x.ruleLetter(2, 0, position), -6, -1, 1, MIN, MAX);
    }

    static void balances() {
        says(10, "Returns the balance plus 100;");
        rules("aaaaaa>bbbbbb", "a>a", "abc>cba", "c>");
        due("six", x.balance(0, 0), 106);
        due("minus six", x.balance(0, 1), 94);
        due("a letter in no side", x.balance(0, 2), 100);
        due("a letter in both sides", x.balance(1, 0), 100);
        due("an empty right side", x.balance(3, 2), 101);
        says(10, "NO_SUCH_RULE (checked first);");
        due("no rules", x.balance(0, 3), -3);
        rules("a>b");
        dueEach("rule, with a wrong letter", rule -> x.balance(rule, 3), -3, -1, 1, 8, MIN, MAX);
        says(10, "NO_SUCH_LETTER.");
        rules("a>b");
        dueEach("letter", letter -> x.balance(0, letter), -2, -1, 3, 6, 7, 8, MIN, MAX);
    }

    static void setWeights() {
        says(11, "`weight`: the weight, 0 to 99");
        due("0", x.setWeight(0, 0), 1);
        due("99", x.setWeight(0, 99), 0);
        due("weight", x.weight(0), 99);
        says(11, "NO_SUCH_LETTER (checked first);");
        dueEach("letter", letter -> x.setWeight(letter, 5), -2, -1, 3, 6, 8, MIN, MAX);
        dueEach("letter, with a wrong weight", letter -> x.setWeight(letter, 100), -2, -1, 3, 6, 8, MIN, MAX);
        x.reset(6);
        dueWeights(1, 1, 1, 1, 1, 1);
        says(11, "BAD_ARGUMENT if the weight is out of range.");
        weights(7, 8, 9);
        dueEach("weight", weight -> x.setWeight(2, weight), -1, -1, 100, MIN, MAX);
        dueWeights(7, 8, 9);
        says(12, "NO_SUCH_LETTER.");
        dueEach("weight", x::weight, -2, -1, 3, 6, 8, MIN, MAX);
        x.reset(1);
        dueEach("weight of one letter", x::weight, -2, -1, 1, 2);
        x.reset(6);
        due("the sixth letter", x.weight(5), 1);
        due("the seventh letter", x.weight(6), -2);
    }

    static void setLevels() {
        says(13, "`level`: the level, 0 to 9");
        due("9", x.setLevel(0, 9), 0);
        due("0", x.setLevel(0, 0), 9);
        due("level", x.level(0), 0);
        says(13, "NO_SUCH_LETTER (checked first);");
        dueEach("letter", letter -> x.setLevel(letter, 5), -2, -1, 3, 6, 8, MIN, MAX);
        dueEach("letter, with a wrong level", letter -> x.setLevel(letter, 10), -2, -1, 3, 6, 8, MIN, MAX);
        x.reset(6);
        dueLevels(0, 0, 0, 0, 0, 0);
        says(13, "BAD_ARGUMENT if the level is out of range.");
        levels(7, 8, 9);
        dueEach("level", level -> x.setLevel(2, level), -1, -1, 10, MIN, MAX);
        dueLevels(7, 8, 9);
        says(14, "NO_SUCH_LETTER.");
        dueEach("level", x::level, -2, -1, 3, 6, 8, MIN, MAX);
        x.reset(1);
        dueEach("level of one letter", x::level, -2, -1, 1, 2);
        x.reset(6);
        due("the sixth letter", x.level(5), 0);
        due("the seventh letter", x.level(6), -2);
    }

    static void statuses() {
        says(15, "`status`: the status, 0 or 1");
        due("1", x.setStatus(1), 0);
        due("1 again", x.setStatus(1), 1);
        due("0", x.setStatus(0), 1);
        due("0 again", x.setStatus(0), 0);
        says(15, "BAD_ARGUMENT if the status is out of range.");
        for (int status = 0; status <= 1; status++) {
            x.setStatus(status);
            dueEach("status", x::setStatus, -1, -1, 2, MIN, MAX);
            due("it stays", x.setStatus(status), status);
        }
    }

    static void admissibility() {
        says(16, "Returns 1 or 0.");
        due("1", x.isAdmissible(), 1);
        weights(0, 99, 99);
        due("0", x.isAdmissible(), 0);
        levels(1, 0, 0);
        due("1", x.isAdmissible(), 1);
        weights(0, 0, 99);
        due("0", x.isAdmissible(), 0);
        // Letters that are gone must not count.
        x.reset(6);
        weights(1, 1, 1, 1, 1, 0);
        x.reset(2);
        due("1", x.isAdmissible(), 1);
    }

    static void comparedSides() {
        says(17, "Returns 2 if the left side is greater, 1 if the sides are equivalent, 0 if the right side is greater;");
        rules("a>", "a>b", "a>bb", "aaaaaa>bbbbbb");
        due("nothing on the right", x.compareSides(0), 2);
        due("equivalent", x.compareSides(1), 1);
        due("the right side heavier", x.compareSides(2), 0);
        due("six and six", x.compareSides(3), 1);
        weights(0, 1, 1);
        due("a letter of no weight against nothing", x.compareSides(0), 2);
        says(17, "NO_SUCH_RULE.");
        dueEach("without rules", x::compareSides, -3, -1, 0, 1, MIN, MAX);
        eightRules();
        due("rule 7", x.compareSides(7), 2);
        dueEach("with eight rules", x::compareSides, -3, -1, 8, MIN, MAX);
    }

    static void comparedWithInput() {
        says(18, "BAD_INPUT if the input buffer does not hold a string of the alphabet.");
        string("ab");
        for (String text : new String[] {"d", "abcabcabcabca", "a>b", " ", "A", "`", "\u0000", "\u007f"}) {
            type(text);
            due("'" + text + "'", x.compareWithInput(), -5);
            due("clearInput", x.clearInput(), 0);
        }
        x.append('a', 40);
        due("a full buffer", x.compareWithInput(), -5);
        dueString("ab");
        type("abcabcabcabc");
        due("twelve letters", x.compareWithInput(), 0);
        dueString("ab");
    }

    static void unoriented() {
        says(19, "Returns the rule, or NONE if all rules are oriented.");
        due("without rules", x.firstUnoriented(), -6);
        for (int r = 0; r < 7; r++) rules("aa>a");
        due("seven oriented ones", x.firstUnoriented(), -6);
        rules("a>b");
        due("the last one, equivalent", x.firstUnoriented(), 7);
        levels(0, 1, 0);
        due("the last one, the right side greater", x.firstUnoriented(), 7);
        levels(1, 0, 0);
        due("all", x.firstUnoriented(), -6);
        x.removeRule(0);
        x.removeRule(0);
        rules("b>c", "c>a");
        due("the first of two", x.firstUnoriented(), 6);
        x.reset(3);
        rules("a>b", "b>c");
        due("the first one", x.firstUnoriented(), 0);
    }
}
