/** The sentences of the description and of promises 1 to 24 that name no boundary case. */
final class EarlySentences extends Sentences {
    static void rewritingAtAPosition() {
        says(0, "A string is rewritten by a rule at a position if the left side occurs there;");
        rules("ab>c");
        for (int position = 0; position < 6; position++) {
            string("abcaba");
            boolean there = position == 0 || position == 3;
            due("rewrite at " + position, x.rewrite(0, position), there ? 5 : -9);
            dueString(position == 0 ? "ccaba" : position == 3 ? "abcca" : "abcaba");
        }
    }

    static void balances() {
        says(0, "The balance of a letter in a rule is the number of its occurrences in the left side minus the number of its"
            + " occurrences in the right side.");
        rules("abacaa>bbcb");
        due("4 - 0", x.balance(0, 0), 104);
        due("1 - 3", x.balance(0, 1), 98);
        due("1 - 1", x.balance(0, 2), 100);
    }

    static void weightsOfStrings() {
        says(0, "The weight of a string is the sum of the weights of its letters.");
        weights(1, 10, 50);
        string("cabcb");
        due("50 + 1 + 10 + 50 + 10", x.stringWeight(), 121);
    }

    static void greaterLetters() {
        says(0, "A letter is greater than another one if its level is higher.");
        rules("a>b");
        for (int a = 0; a <= 9; a++) {
            for (int b = 0; b <= 9; b++) {
                levels(a, b);
                due("levels " + a + " and " + b, x.compareSides(0), a > b ? 2 : a < b ? 0 : 1);
            }
        }
    }

    static void directions() {
        says(0, "The status is 0 (strings are compared from left to right) or 1 (from right to left);");
        rules("acb>bca");
        levels(2, 1, 5);
        due("from left to right", x.compareSides(0), 2);
        x.setStatus(1);
        due("from right to left", x.compareSides(0), 0);
    }

    static void orientedRules() {
        says(0, "A rule is oriented if its left side is greater than its right side.");
        rules("a>b");
        due("equivalent", x.firstUnoriented(), 0);
        levels(0, 1);
        due("the right side is greater", x.firstUnoriented(), 0);
        levels(2, 1);
        due("the left side is greater", x.firstUnoriented(), -6);
    }

    /** The order with different levels makes derivations end, so no system that it orients has them of any length. */
    static void differentLevels() {
        says(0, "(If all rules are oriented and the weights and levels are admissible, there are no infinite derivations, provided"
            + " that all levels are different;");
        String[][] systems = {{"ab>ba", "bb>a"}, {"aa>b", "bc>aac"}, {"ab>bba"}, {"a>bb", "b>cc"}, {"a>b", "b>a"}, {"abc>cba", "c>"}};
        int asked = 0;
        for (String[] system : systems) {
            fresh();
            rules(system);
            string("aabc");
            for (int code = 0; code < 27 * 6 * 2; code++) {
                weights(code / 9 % 3, code / 3 % 3, code % 3);
                int first = code / 27 % 3;
                int second = (first + 1 + code / 81 % 2) % 3;
                levels(first, second, 3 - first - second);
                x.setStatus(code / 162);
                if (x.isAdmissible() == 0 || x.firstUnoriented() != -6) continue;
                asked++;
                due("derivations of any length", x.longestDerivation() == -6 ? 1 : 0, 0);
            }
        }
        due("some systems were oriented", asked > 20 ? 1 : 0, 1);
    }

    /** aa and b weigh the same and only their lengths decide; with a greater letter behind them it is the other way round. */
    static void equalLevels() {
        says(0, "with equal levels there can be some.)");
        rules("aa>b", "bc>aac");
        weights(1, 2, 1);
        levels(0, 0, 1);
        due("admissible", x.isAdmissible(), 1);
        due("all rules are oriented", x.firstUnoriented(), -6);
        string("bc");
        due("bc>aac>bc", x.longestDerivation(), -6);
        levels(0, 1, 2);
        due("not with different levels", x.firstUnoriented(), 0);
        levels(1, 0, 2);
        due("not with different levels", x.firstUnoriented(), 1);
    }

    static void marginsInFloat() {
        says(0, "The margin of a rule is computed in float arithmetic: starting from 0.0f, for each letter in ascending order, the"
            + " product of the balance (converted to float) and the approximate weight is added.");
        rules("aaacc>bbbbb");
        x.setApproximateWeight(0, 1, 3);
        x.setApproximateWeight(1, 7, 10);
        x.setApproximateWeight(2, 123457, 10);
        float sum = 0.0f + 3.0f * (1.0f / 3.0f);
        sum = sum + -5.0f * (7.0f / 10.0f);
        sum = sum + 2.0f * (123457.0f / 10.0f);
        due("margin", x.margin(0), (long) ((double) sum * 1000000.0));
    }

    static void sizeOfTheAlphabet() {
        says(2, "Sets the size of the alphabet.");
        due("reset", x.reset(5), 3);
        due("letters", x.letters(), 5);
        due("the fifth letter", string("e"), 1);
    }

    static void previousLetters() {
        says(2, "Returns the previous number of letters;");
        int previous = 3;
        for (int next : new int[] {1, 6, 6, 2, 5, 4}) {
            due("reset(" + next + ")", x.reset(next), previous);
            previous = next;
        }
    }

    static void numberOfLetters() {
        says(3, "Returns the number of letters.");
        says(3, "Returns n.");
        x.reset(4);
        x.snapshot();
        x.reset(2);
        due("after a reset", x.letters(), 2);
        x.restore();
        due("after a restore", x.letters(), 4);
    }

    static void bytesInTheBuffer() {
        says(4, "Returns the number of bytes in the input buffer;");
        due("3", x.append('a', 3), 3);
        due("3 + 4", x.append('b', 4), 7);
        x.clearInput();
        due("after clearInput", x.append('b', 2), 2);
    }

    static void addedRules() {
        says(6, "Adds a rule.");
        due("the first", rule("abc>ca"), 0);
        due("ruleCount", x.ruleCount(), 1);
        for (int p = 0; p < 3; p++) due("left side", x.ruleLetter(0, 0, p), p);
        due("right side", x.ruleLetter(0, 1, 0), 2);
        due("right side", x.ruleLetter(0, 1, 1), 0);
        says(6, "Returns the number of the new rule;");
        for (int r = 0; r < 4; r++) due("rule", rule("a>b"), r);
        x.removeRule(1);
        due("after a rule was removed", rule("a>c"), 3);
    }

    static void removedRules() {
        says(7, "Deletes a rule.");
        rules("a>b", "b>c", "c>a");
        x.removeRule(1);
        due("what was before it", x.ruleLetter(0, 0, 0), 0);
        due("what was behind it", x.ruleLetter(1, 0, 0), 2);
        due("nothing else", x.ruleLetter(2, 0, 0), -3);
        says(7, "Returns the number of rules that are left;");
        rules("a>b", "b>c", "c>a");
        for (int left = 2; left >= 0; left--) due("removeRule", x.removeRule(0), left);
    }

    static void lettersOfRules() {
        says(9, "Returns one letter of a rule.");
        says(9, "Returns the letter;");
        says(9, "`side`: 0 for the left side, 1 for the right side");
        fresh(6);
        rules("fedcba>abc", "a>f");
        for (int p = 0; p < 6; p++) due("left side", x.ruleLetter(0, 0, p), 5 - p);
        for (int p = 0; p < 3; p++) due("right side", x.ruleLetter(0, 1, p), p);
        due("another rule, left", x.ruleLetter(1, 0, 0), 0);
        due("another rule, right", x.ruleLetter(1, 1, 0), 5);
    }

    static void balanceAnswers() {
        says(10, "Returns the balance of a letter in a rule.");
        rules("ab>ba", "aab>b");
        due("rule 0", x.balance(0, 0), 100);
        due("rule 1", x.balance(1, 0), 102);
        due("rule 1, another letter", x.balance(1, 1), 100);
    }

    static void weightsOfLetters() {
        says(11, "Sets the weight of a letter.");
        says(11, "Returns the previous weight;");
        says(12, "Returns the weight of a letter.");
        says(12, "Returns the weight;");
        due("setWeight", x.setWeight(1, 40), 1);
        dueWeights(1, 40, 1);
        due("setWeight", x.setWeight(1, 41), 40);
        dueWeights(1, 41, 1);
    }

    static void levelsOfLetters() {
        says(13, "Sets the level of a letter.");
        says(13, "Returns the previous level;");
        says(14, "Returns the level of a letter.");
        says(14, "Returns the level;");
        due("setLevel", x.setLevel(2, 4), 0);
        dueLevels(0, 0, 4);
        due("setLevel", x.setLevel(2, 5), 4);
        dueLevels(0, 0, 5);
    }

    static void statuses() {
        says(15, "Sets the status.");
        rules("ab>ba");
        levels(1, 0);
        x.setStatus(1);
        due("from the right", x.compareSides(0), 0);
        says(15, "Returns the previous status;");
        due("0 to 1", x.setStatus(1), 0);
        due("1 to 0", x.setStatus(0), 1);
    }

    static void admissibility() {
        says(16, "Returns whether the weights and levels are admissible.");
        for (int code = 0; code < 64; code++) {
            weights(code & 1, code >> 1 & 1, code >> 2 & 1);
            levels(code >> 3 & 1, code >> 4 & 1, code >> 5 & 1);
            int weightless = ~code & 7;
            // With two levels, a letter is above all others if it alone has the higher one.
            boolean good = weightless == 0 || Integer.bitCount(weightless) == 1 && code >> 3 == weightless;
            due("weights and levels " + code, x.isAdmissible(), good ? 1 : 0);
        }
    }

    static void comparisons() {
        says(17, "Compares the two sides of a rule.");
        rules("abb>a", "a>b", "b>ba");
        due("greater", x.compareSides(0), 2);
        due("equivalent", x.compareSides(1), 1);
        due("less", x.compareSides(2), 0);
        says(18, "Compares the current string with the string in the input buffer.");
        says(18, "Returns 2 if the current string is greater, 1 if they are equivalent, 0 if the string in the input buffer is"
            + " greater;");
        string("ab");
        buffer("a");
        due("ab and a", x.compareWithInput(), 2);
        buffer("ca");
        due("ab and ca", x.compareWithInput(), 1);
        buffer("aba");
        due("ab and aba", x.compareWithInput(), 0);
    }

    static void theFirstUnoriented() {
        says(19, "Returns the first rule that is not oriented.");
        rules("aa>b", "bb>c", "a>a", "cc>a", "b>bb");
        due("of two", x.firstUnoriented(), 2);
        x.removeRule(2);
        due("the other one", x.firstUnoriented(), 3);
    }

    static void weightsThatAreFound() {
        says(20, "Finds weights by which every rule has a left side of larger weight.");
        rules("a>bb", "b>cc", "c>");
        due("findWeights", x.findWeights(4), -6);
        due("findWeights", x.findWeights(5), -6);
        x.removeRule(2);
        due("findWeights", x.findWeights(3), 4);
        for (int r = 0; r < 2; r++) due("larger weight on the left", x.compareSides(r), 2);
        says(20, "Returns the sum of the weights found;");
        rules("a>bb", "b>c", "c>");
        due("5 + 2 + 1", x.findWeights(6), 8);
        dueWeights(5, 2, 1);
    }

    /** Where a certificate is found there are no weights, and the array of its digits is one by checkCertificate, too. */
    static void certificates() {
        says(21, "Finds a certificate that there are no such weights as findWeights needs, with any limit.");
        String[][] systems = {{"ab>ba"}, {"a>bb", "b>a"}, {"aaa>bbb", "b>a"}, {"aab>c", "c>ab", "b>bb"}, {"a>b", "b>c", "c>a"}};
        for (String[] system : systems) {
            fresh();
            rules(system);
            int certificate = x.findCertificate();
            due("there is one", certificate > 0 ? 1 : 0, 1);
            for (int limit = 1; limit <= 6; limit++) due("findWeights(" + limit + ")", x.findWeights(limit), -6);
            long[] digits = new long[system.length];
            for (int r = system.length - 1; r >= 0; r--) {
                digits[r] = certificate % 4;
                certificate /= 4;
            }
            fill(0, 0, digits);
            due("checkCertificate", x.checkCertificate(0), 1);
        }
    }

    static void theSmallestCertificate() {
        says(21, "The lexicographically smallest certificate is taken;");
        rules("a>a", "b>b");
        due("0, 1 before 1, 0", x.findCertificate(), 1);
        says(21, "the first rule is the most significant one.");
        rules("a>bb", "b>a", "c>");
        due("1, 1, 0", x.findCertificate(), 20);
    }

    static void levelsThatAreFound() {
        says(22, "Finds levels by which every rule is oriented, with the current weights and status, and by which the weights and"
            + " levels are admissible.");
        rules("abc>cba", "bc>cb");
        due("from the left", x.findLevels(), 11);
        due("oriented", x.firstUnoriented(), -6);
        x.setStatus(1);
        due("from the right", x.findLevels(), 100);
        due("oriented", x.firstUnoriented(), -6);
        weights(1, 0, 1);
        due("b would have to be above all others, and below c", x.findLevels(), -6);
        x.setStatus(0);
        due("from the left, b above all others", x.findLevels(), 21);
        due("admissible", x.isAdmissible(), 1);
    }

    static void ordersThatAreFound() {
        says(23, "Finds weights, a status and levels by which every rule is oriented and by which the weights and levels are"
            + " admissible.");
        says(23, "Returns 1 if they were found;");
        String[][] systems = {{"ab>ba", "bc>cb"}, {"ba>ab", "cb>bc"}, {"a>bb"}, {"abc>cc", "cc>ab"}, {"aa>a"}, {"ab>c", "c>b"}};
        for (String[] system : systems) {
            fresh();
            rules(system);
            due("findOrder", x.findOrder(), 1);
            due("oriented", x.firstUnoriented(), -6);
            due("admissible", x.isAdmissible(), 1);
        }
    }

    static void reachable() {
        says(24, "Returns which letters can come from a letter.");
        says(24, "A letter x leads to y if y occurs in the right side of a rule whose left side contains x.");
        says(24, "Returns the set as bits: bit k is 1 if letter k is in it;");
        fresh(6);
        rules("ab>ce", "e>f");
        due("a leads to c, e and then f", x.reachableLetters(0), 4 + 16 + 32);
        due("b, too", x.reachableLetters(1), 4 + 16 + 32);
        due("c", x.reachableLetters(2), 0);
        due("e", x.reachableLetters(4), 32);
    }
}
