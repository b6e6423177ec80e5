/** The boundary cases of promises 20 to 33: searching, the current string, rewriting, derivations and loops. */
final class SearchBoundaries extends Sentences {
    static void leastWeights() {
        says(20, "Of all sequences of weights from 0 to a limit, for the letters in ascending order, the lexicographically smallest one"
            + " is taken.");
        // a weighs one more than so many b, and b at least 1: a limit below that leaves nothing.
        for (int least = 1; least <= 6; least++) {
            fresh(2);
            rules("a>" + "b".repeat(least - 1), "b>");
            if (least > 1) due("a limit too small", x.findWeights(least - 1), -6);
            due("the least limit", x.findWeights(least), least + 1);
            dueWeights(least, 1);
            due("a higher limit", x.findWeights(6), least + 1);
        }
        fresh(2);
        rules("a>bbbbbb", "b>");
        due("7 would be needed", x.findWeights(6), -6);
        fresh(2);
        rules("ab>");
        due("the first letter stays at 0", x.findWeights(6), 1);
        dueWeights(0, 1);
        fresh(3);
        rules("a>bb", "ccccc>a");
        due("not the least sum, but the least sequence", x.findWeights(6), 2);
        dueWeights(1, 0, 1);
        fresh(6);
        rules("a>b", "b>c", "c>d", "d>e", "e>f", "f>", "ab>c", "aaaaaa>bbbbbb");
        due("eight rules", x.findWeights(6), 21);
        dueWeights(6, 5, 4, 3, 2, 1);
        x.removeRule(7);
        rules("aaaaa>bbbbbb");
        due("eight rules, the last one without weights", x.findWeights(6), -6);
        fresh(2);
        rules("aab>ba");
        due("more on the left of one letter", x.findWeights(1), 1);
        dueWeights(1, 0);
    }

    static void weightsFound() {
        says(20, "If there is one, it becomes the weights.");
        fresh(6);
        weights(9, 9, 9, 9, 9, 9);
        rules("f>a");
        due("findWeights", x.findWeights(6), 1);
        dueWeights(0, 0, 0, 0, 0, 1);
        weights(9, 9, 9, 9, 9, 9);
        x.removeRule(0);
        due("without rules", x.findWeights(1), 0);
        dueWeights(0, 0, 0, 0, 0, 0);
    }

    static void weightLimits() {
        says(20, "`limit`: the limit, 1 to 6");
        fresh(6);
        rules("a>b", "b>c", "c>d", "d>e", "e>f", "f>");
        for (int limit = 1; limit < 6; limit++) due("limit " + limit, x.findWeights(limit), -6);
        due("limit 6", x.findWeights(6), 21);
        dueWeights(6, 5, 4, 3, 2, 1);
        fresh();
        rules("a>");
        due("limit 1", x.findWeights(1), 1);
        says(20, "BAD_ARGUMENT if the limit is out of range;");
        weights(4, 5, 6);
        dueEach("without rules", x::findWeights, -1, 0, 7, -1, MIN, MAX);
        rules("a>b");
        dueEach("with a rule", x::findWeights, -1, 0, 7, -1, MIN, MAX);
        dueWeights(4, 5, 6);
    }

    static void noWeights() {
        says(20, "NONE if there are no such weights, in which case the weights stay.");
        weights(97, 98, 99);
        rules("a>b");
        due("a rule that fits", x.findWeights(1), 1);
        weights(97, 98, 99);
        rules("b>a");
        due("round", x.findWeights(6), -6);
        dueWeights(97, 98, 99);
        x.reset(3);
        weights(97, 98, 99);
        rules("a>a");
        due("equal sides", x.findWeights(6), -6);
        dueWeights(97, 98, 99);
        x.reset(1);
        weights(0);
        rules("a>aa");
        due("one letter", x.findWeights(6), -6);
        dueWeights(0);
    }

    static void certificateIntegers() {
        says(21, "A certificate is a sequence of one integer from 0 to 3 for each rule, not all 0, such that for every letter the sum,"
            + " over all rules, of the integer times the balance of the letter in the rule is at most 0.");
        // So many times b>a for one times a..a>b..b.
        for (int times = 1; times <= 6; times++) {
            fresh(2);
            rules("a".repeat(times) + ">" + "b".repeat(times), "b>a");
            due(times + " times", x.findCertificate(), times <= 3 ? 4 + times : -6);
        }
        fresh(2);
        rules("aa>bb", "bbb>aaa");
        due("3 and 2", x.findCertificate(), 3 * 4 + 2);
        fresh(2);
        rules("aaa>bbb", "bbbb>aaaa");
        due("4 and 3 would be needed", x.findCertificate(), -6);
        fresh(1);
        rules("a>a");
        due("a sum of 0", x.findCertificate(), 1);
        fresh(1);
        rules("aa>a");
        due("a sum of 1", x.findCertificate(), -6);
        fresh(1);
        rules("a>aa");
        due("a sum of -1", x.findCertificate(), 1);
        fresh(6);
        rules("abcdef>fedcba");
        due("six letters", x.findCertificate(), 1);
        fresh(6);
        rules("abcdef>edcba");
        due("six letters, the last one too many", x.findCertificate(), -6);
    }

    static void certificateNumbers() {
        says(21, "Returns the certificate as an integer: the sum of the integers times 4 to the power of the number of rules that"
            + " follow;");
        for (int only = 0; only < 8; only++) {
            fresh();
            for (int r = 0; r < 8; r++) rules(r == only ? "a>a" : "b>");
            due("rule " + only + " of eight", x.findCertificate(), 1 << 2 * (7 - only));
        }
        fresh();
        rules("b>a", "c>", "c>", "c>", "c>", "c>", "c>", "aaa>bbb");
        due("three times the first of eight, and the last", x.findCertificate(), 3 * 16384 + 1);
        fresh();
        rules("a>a", "a>a", "a>a");
        due("the smallest one", x.findCertificate(), 1);
        says(21, "NONE if there is no certificate.");
        due("without rules", x.findCertificate(), -6);
        rules("a>");
        due("one rule", x.findCertificate(), -6);
        for (int r = 1; r < 8; r++) rules("aaaaaa>aaaaa");
        due("eight rules", x.findCertificate(), -6);
    }

    static void leastLevels() {
        says(22, "Of all sequences of levels from 0 to n - 1, for the letters in ascending order, the lexicographically smallest one is"
            + " taken.");
        String chain = "abcdef";
        int due = 0;
        int power = 1;
        for (int n = 1; n <= 6; n++) {
            fresh(n);
            // Each letter is above the one before it: level n - 1 is needed, and there is no higher one.
            for (int k = 1; k < n; k++) rules(chain.charAt(k) + ">" + chain.charAt(k - 1));
            due += (n - 1) * power;
            power *= 10;
            due("levels up to n - 1", x.findLevels(), due);
            for (int k = 0; k < n; k++) due("level", x.level(k), k);
        }
        for (String same : new String[] {"", "a", "b", "c", "ab", "cc", "cab", "aaaa", "bbbb", "cccc"}) {
            fresh();
            rules(same + "ab>" + same + "ba");
            due("after " + same + ", from the left", x.findLevels(), 1);
            fresh();
            x.setStatus(1);
            rules("ab" + same + ">ba" + same);
            due("before " + same + ", from the right", x.findLevels(), 10);
        }
        fresh(2);
        weights(0, 1);
        rules("ba>b");
        due("longer by a letter of no weight", x.findLevels(), 1);
        fresh(4);
        rules("c>a");
        due("no level without need", x.findLevels(), 100);
        fresh(4);
        weights(1, 1, 1, 0);
        rules("a>b");
        due("above the others", x.findLevels(), 2001);
        dueLevels(1, 0, 0, 2);
        fresh(2);
        weights(0, 1);
        rules("b>ba", "ab>b");
        due("longer on the right", x.findLevels(), -6);
    }

    static void levelsFound() {
        says(22, "If there is one, it becomes the levels.");
        fresh(6);
        levels(9, 9, 9, 9, 9, 9);
        rules("a>f");
        due("findLevels", x.findLevels(), 1);
        dueLevels(1, 0, 0, 0, 0, 0);
        dueWeights(1, 1, 1, 1, 1, 1);
        due("setStatus", x.setStatus(0), 0);
        says(22, "Returns the levels found as an integer: the level of letter k times 10 to the power k, added up;");
        fresh(6);
        rules("f>e");
        due("the last letter", x.findLevels(), 100000);
        x.reset(6);
        due("no level above 0", x.findLevels(), 0);
    }

    static void noLevels() {
        says(22, "NONE if there are no such levels, in which case the levels stay.");
        levels(7, 8, 9);
        rules("a>b", "b>a");
        due("round", x.findLevels(), -6);
        dueLevels(7, 8, 9);
        x.reset(3);
        levels(7, 8, 9);
        rules("a>bb");
        due("lighter on the left", x.findLevels(), -6);
        x.removeRule(0);
        rules("a>a");
        due("equal sides", x.findLevels(), -6);
        x.removeRule(0);
        weights(0, 1, 0);
        due("two letters of no weight", x.findLevels(), -6);
        weights(0, 0, 0);
        due("three letters of no weight", x.findLevels(), -6);
        weights(0, 1, 1);
        rules("b>ba");
        due("a letter of no weight that comes last", x.findLevels(), -6);
        x.removeRule(0);
        rules("b>ab");
        due("a letter of no weight that comes first", x.findLevels(), -6);
        dueLevels(7, 8, 9);
        fresh(1);
        rules("a>aa");
        x.setLevel(0, 9);
        due("one letter", x.findLevels(), -6);
        dueLevels(9);
    }

    static void ordersTried() {
        says(23, "They are tried in this order: the sequences of weights from 0 to 2 in lexicographic order;");
        rules("a>bb", "b>c");
        due("weights 2, 1", x.findOrder(), 1);
        dueWeights(2, 1, 0);
        x.reset(3);
        rules("a>bbb", "b>");
        due("by levels, with b at no weight", x.findOrder(), 1);
        dueWeights(1, 0, 1);
        x.reset(3);
        rules("a>bbb", "b>cc");
        due("3 would be needed", x.findOrder(), -6);
        x.reset(4);
        rules("d>cc", "c>ab");
        // c has the weight of ab, but a is above it: only from the right is c greater, than b.
        due("no weight but 2 for d and 1 for c", x.findOrder(), 1);
        dueWeights(0, 1, 1, 2);
        dueLevels(3, 0, 1, 2);
        due("status", x.setStatus(0), 1);
        says(23, "for equal weights, status 0 before status 1;");
        fresh(2);
        x.setStatus(1);
        rules("ab>ba");
        due("status 0 will do", x.findOrder(), 1);
        due("status", x.setStatus(0), 0);
        dueWeights(0, 1);
        x.reset(2);
        rules("ba>ab");
        due("status 1 before heavier weights", x.findOrder(), 1);
        due("status", x.setStatus(0), 1);
        dueWeights(0, 1);
        says(23, "for equal status, the sequences of levels from 0 to n - 1 in lexicographic order.");
        fresh(4);
        rules("a>b", "b>c", "c>d");
        // d alone may weigh nothing, and has to be above the others then: all the levels are needed.
        due("four letters", x.findOrder(), 1);
        due("status", x.setStatus(0), 0);
        dueWeights(1, 1, 1, 0);
        dueLevels(2, 1, 0, 3);
    }

    static void ordersFound() {
        says(23, "The first ones found become the weights, the status and the levels.");
        for (int n = 1; n <= 4; n++) {
            fresh(n);
            for (int k = 0; k < n; k++) {
                x.setWeight(k, 50);
                x.setLevel(k, 9);
            }
            x.setStatus(1);
            due("without rules", x.findOrder(), 1);
            for (int k = 0; k < n; k++) {
                due("weight", x.weight(k), k == 0 ? 0 : 1);
                due("level", x.level(k), k == 0 && n > 1 ? 1 : 0);
            }
            due("status", x.setStatus(0), 0);
            due("isAdmissible", x.isAdmissible(), 1);
        }
        says(23, "ALPHABET_TOO_LARGE if there are more than 4 letters;");
        fresh(4);
        due("four", x.findOrder(), 1);
        for (int n = 5; n <= 6; n++) {
            fresh(n);
            weights(5, 6, 7, 8, 9);
            levels(5, 6, 7, 8, 9);
            x.setStatus(1);
            due("without rules", x.findOrder(), -8);
            rules("a>ab");
            due("without an order", x.findOrder(), -8);
            dueWeights(5, 6, 7, 8, 9);
            dueLevels(5, 6, 7, 8, 9);
            due("status", x.setStatus(1), 1);
        }
    }

    static void noOrder() {
        says(23, "NONE if there are none, in which case nothing changes.");
        for (int n = 1; n <= 4; n++) {
            fresh(n);
            x.setWeight(n - 1, 77);
            x.setLevel(n - 1, 8);
            x.setStatus(1);
            rules("a>aa");
            due("findOrder", x.findOrder(), -6);
            due("weight", x.weight(n - 1), 77);
            due("level", x.level(n - 1), 8);
            due("status", x.setStatus(0), 1);
            due("findOrder", x.findOrder(), -6);
            due("status", x.setStatus(0), 0);
        }
    }

    static void reachable() {
        says(24, "The set consists of the letters that are reached in one or more such steps.");
        fresh(6);
        due("no step", x.reachableLetters(0), 0);
        rules("a>b");
        due("one step, not itself", x.reachableLetters(0), 2);
        rules("b>c", "c>d", "d>e", "e>f");
        due("five steps", x.reachableLetters(0), 62);
        rules("f>a");
        for (int k = 0; k < 6; k++) due("six steps, itself too", x.reachableLetters(k), 63);
        fresh(6);
        rules("f>a", "e>f", "d>e", "c>d", "b>c", "a>b");
        for (int k = 0; k < 6; k++) due("against the order of the rules", x.reachableLetters(k), 63);
        fresh();
        rules("a>a", "bc>");
        due("itself in one step", x.reachableLetters(0), 1);
        due("an empty right side", x.reachableLetters(1), 0);
        says(24, "NO_SUCH_LETTER.");
        rules("a>b");
        dueEach("reachableLetters", x::reachableLetters, -2, -1, 3, 6, 8, 32, 33, -32, MIN, MAX);
        x.reset(6);
        due("the sixth letter", x.reachableLetters(5), 0);
        due("the seventh letter", x.reachableLetters(6), -2);
    }

    static void strings() {
        says(25, "BAD_INPUT if the input buffer does not hold a string of the alphabet, in which case the current string stays.");
        for (String held : new String[] {"", "b", "abcabcabcabc"}) {
            fresh();
            string(held);
            for (String text : new String[] {"d", "abcabcabcabca", "a>b", " ", "abA", "`", "\u0000", "\u007f"}) {
                due("'" + text + "'", string(text), -5);
                due("clearInput", x.clearInput(), 0);
                dueString(held);
            }
        }
        says(26, "Returns the length.");
        due("empty", x.stringLength(), 0);
        string("abcabcabcabc");
        due("twelve", x.stringLength(), 12);
        string("");
        due("empty", x.stringLength(), 0);
        says(27, "NONE if there is no such position.");
        dueEach("empty", x::stringLetter, -6, -1, 0, 1, MIN, MAX);
        string("c");
        due("the only one", x.stringLetter(0), 2);
        dueEach("one letter", x::stringLetter, -6, -1, 1, 11, MIN, MAX);
        string("abcabcabcabb");
        due("the last of twelve", x.stringLetter(11), 1);
        dueEach("twelve letters", x::stringLetter, -6, -1, 12, 13, 64, MIN, MAX);
        says(28, "Returns the weight.");
        due("empty", x.stringWeight(), 0);
        string("abcabcabcabc");
        weights(99, 99, 99);
        due("the heaviest", x.stringWeight(), 1188);
        weights(0, 0, 0);
        due("the lightest", x.stringWeight(), 0);
    }

    static void rewriting() {
        says(29, "NO_SUCH_RULE (checked first);");
        string("ab");
        dueEach("without rules", rule -> x.rewrite(rule, 0), -3, -1, 0, 1, MIN, MAX);
        rules("a>b");
        dueEach("rule, with a wrong position", rule -> x.rewrite(rule, 99), -3, -1, 1, 8, MIN, MAX);
        dueString("ab");
        says(29, "NOT_APPLICABLE if the left side does not occur there, or the string would have more than 12 letters.");
        rules("ab>c", "aaaaaa>a", "b>bbbbbb", "b>bb", "c>aaaaaa");
        dueEach("the empty string", position -> x.rewrite(0, position), -9, -1, 0, 1, 12, MIN, MAX);
        string("bab");
        dueEach("positions", position -> x.rewrite(0, position), -9, -1, 0, 2, 3, 4, 12, 13, 64, MIN, MAX, MAX - 1, MIN + 1);
        string("aaaaa");
        due("a left side longer than the string", x.rewrite(1, 0), -9);
        dueString("aaaaa");
        string("aaaaaabaaaaa");
        due("13 letters", x.rewrite(3, 6), -9);
        due("17 letters", x.rewrite(2, 6), -9);
        dueString("aaaaaabaaaaa");
        string("abaaaaa");
        due("12 letters", x.rewrite(2, 1), 12);
        dueString("abbbbbbaaaaa");
        string("ccccccc");
        due("at the last position", x.rewrite(4, 6), 12);
        dueString("ccccccaaaaaa");
        due("and one more", x.rewrite(4, 0), -9);
    }

    static void normalizing() {
        says(30, "Rewrites the current string by up to a number of steps.");
        rules("a>b");
        string("aaaa");
        due("fewer than there are", x.normalize(3), 3);
        dueString("bbba");
        due("more than there are", x.normalize(2), 1);
        due("no step left", x.normalize(1), 0);
        dueString("bbbb");
        says(30, "`steps`: the maximum number of steps, 0 to 1000");
        rules("a>b", "b>a");
        string("a");
        due("0", x.normalize(0), 0);
        dueString("a");
        due("1000", x.normalize(1000), 1000);
        dueString("a");
        due("999", x.normalize(999), 999);
        dueString("b");
        says(30, "BAD_ARGUMENT if the number is out of range.");
        dueEach("without rules", x::normalize, -1, -1, 1001, MIN, MAX);
        rules("a>b");
        string("aa");
        dueEach("with a step", x::normalize, -1, -1, 1001, MIN, MAX);
        dueString("aa");
    }

    static void longestDerivations() {
        says(31, "LIMIT_EXCEEDED if more than 200 different strings can be derived from the current string, including itself (checked"
            + " first);");
        rulesFor200Strings();
        string("aafff");
        due("200 strings", x.longestDerivation(), 11);
        rules("eeeee>e");
        due("201 strings", x.longestDerivation(), -7);
        x.removeRule(6);
        rules("e>e");
        due("200 strings, and round", x.longestDerivation(), -6);
        rules("eeeee>");
        due("201 strings, and round", x.longestDerivation(), -7);
        x.removeRule(7);
        rules("baeff>");
        due("201 strings, the last one found early", x.longestDerivation(), -7);
        dueString("aafff");
        says(31, "NONE if there are derivations of any length.");
        due("without rules", x.longestDerivation(), 0);
        rules("a>a");
        due("the empty string", x.longestDerivation(), 0);
        string("a");
        due("a step to itself", x.longestDerivation(), -6);
        string("b");
        due("no step", x.longestDerivation(), 0);
        fresh();
        rules("a>b", "b>c", "c>b");
        string("a");
        due("round, but not to the first string", x.longestDerivation(), -6);
        fresh();
        rules("a>aa");
        string("a");
        due("ever longer, but for the limit of 12", x.longestDerivation(), 11);
        dueString("a");
    }

    static void loops() {
        says(32, "Searches for a loop from the left side of a rule: a derivation of one or more steps from the left side to a string that"
            + " contains the left side.");
        rules("ab>c");
        due("no step back", x.findLoop(0), -6);
        x.reset(3);
        rules("a>a");
        due("one step", x.findLoop(0), 1);
        x.reset(3);
        rules("ab>bab");
        due("at the end of the string", x.findLoop(0), 1);
        x.reset(3);
        rules("ab>abb");
        due("at its beginning", x.findLoop(0), 1);
        x.reset(3);
        rules("aaaaaa>aaaaa", "a>aaa");
        due("of six letters", x.findLoop(0), 1);
        due("rule", x.loopStep(0, 0), 1);
        says(32, "a string that was found before is not added again, but the left side itself counts as found when it is derived again.");
        rules("a>b", "b>b", "b>c", "c>b", "c>a");
        due("back to the left side", x.findLoop(0), 3);
        due("rule", x.loopStep(0, 0), 0);
        due("rule", x.loopStep(1, 0), 2);
        due("rule", x.loopStep(2, 0), 4);
        x.reset(3);
        rules("a>b", "b>b", "b>c", "c>b");
        due("only strings found before", x.findLoop(0), -6);
        says(32, "The search stops at the first derived string that contains the left side, whether it is new or not.");
        rules("a>bac", "a>a");
        due("new", x.findLoop(0), 1);
        due("the lower rule", x.loopStep(0, 0), 0);
        x.reset(3);
        rules("a>b", "a>a", "b>aa");
        due("the left side itself", x.findLoop(0), 1);
        due("rule", x.loopStep(0, 0), 1);
        x.reset(3);
        rules("aab>aab", "a>ca");
        due("at the lowest position", x.findLoop(0), 1);
        due("rule", x.loopStep(0, 0), 0);
        due("position", x.loopStep(0, 1), 0);
    }

    static void storedLoops() {
        says(32, "If there is one, the derivation by which it was found is stored as the loop, replacing the one stored before.");
        rules("a>b", "b>c", "c>a", "ab>abb");
        due("three steps", x.findLoop(0), 3);
        due("one step", x.findLoop(3), 1);
        due("step 0", x.loopStep(0, 0), 3);
        due("step 1", x.loopStep(1, 0), -6);
        due("three steps again", x.findLoop(1), 3);
        due("step 0", x.loopStep(0, 0), 1);
        due("step 2", x.loopStep(2, 0), 0);
        due("step 3", x.loopStep(3, 0), -6);
        says(32, "NO_SUCH_RULE;");
        dueEach("without rules", x::findLoop, -3, -1, 0, 1, MIN, MAX);
        storeLoop();
        dueEach("with a rule", x::findLoop, -3, -1, 1, 8, MIN, MAX);
        dueLoop(true);
    }

    static void loopLimits() {
        says(32, "LIMIT_EXCEEDED as soon as more than 200 different strings were found, including the left side;");
        rulesFor200Strings();
        due("200 strings", x.findLoop(0), -6);
        rules("eeeee>e");
        due("201 strings", x.findLoop(0), -7);
        due("no loop", x.loopStep(0, 0), -6);
        x.removeRule(6);
        rules("eeeee>aafff");
        due("a loop from the 200th string", x.findLoop(0), 12);
        // From two steps on there are 201 strings before the last of them is expanded, so the loop is never seen.
        rules("aafff>");
        due("201 strings before the loop", x.findLoop(0), -7);
        due("the loop found before stays", x.loopStep(11, 0), 6);
        due("the loop found before stays", x.loopStep(12, 0), -6);
        says(32, "NONE if all strings were expanded.");
        rules("a>");
        due("one step to nothing", x.findLoop(0), -6);
        rules("b>c");
        due("one step", x.findLoop(1), -6);
        x.reset(1);
        rules("aaaaaa>aaaaa");
        due("shorter and shorter", x.findLoop(0), -6);
    }

    static void loopSteps() {
        says(33, "BAD_ARGUMENT if what is not 0 or 1 (checked first);");
        dueEach("without a loop", what -> x.loopStep(0, what), -1, -1, 2, MIN, MAX);
        storeLoop();
        dueEach("with a loop", what -> x.loopStep(0, what), -1, -1, 2, MIN, MAX);
        dueEach("with a wrong step", what -> x.loopStep(99, what), -1, -1, 2, MIN, MAX);
        due("0", x.loopStep(0, 0), 0);
        due("1", x.loopStep(0, 1), 0);
        says(33, "NONE if there is no such step, or no loop is stored.");
        dueEach("rule without a loop", step -> x.loopStep(step, 0), -6, -1, 0, 1, MIN, MAX);
        dueEach("position without a loop", step -> x.loopStep(step, 1), -6, -1, 0, 1, MIN, MAX);
        rules("ab>cb", "c>ba");
        due("findLoop", x.findLoop(0), 2);
        due("the last step", x.loopStep(1, 0), 1);
        dueEach("rule", step -> x.loopStep(step, 0), -6, -1, 2, 199, 200, MIN, MAX);
        dueEach("position", step -> x.loopStep(step, 1), -6, -1, 2, 199, 200, MIN, MAX);
    }
}
