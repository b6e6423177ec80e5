/** The sentences of promises 25 to 47 that name no boundary case. */
final class LateSentences extends Sentences {
    static void theCurrentString() {
        says(25, "Sets the current string to the string in the input buffer.");
        says(25, "Returns its length;");
        due("setString", string("cab"), 3);
        dueString("cab");
        due("setString", string("bbbbb"), 5);
        dueString("bbbbb");
        says(26, "Returns the length of the current string.");
        for (int size = 0; size <= 12; size++) {
            string("a".repeat(size));
            due("stringLength", x.stringLength(), size);
        }
        says(27, "Returns a letter of the current string.");
        says(27, "Returns the letter;");
        string("abccba");
        int[] letters = {0, 1, 2, 2, 1, 0};
        for (int p = 0; p < 6; p++) due("stringLetter(" + p + ")", x.stringLetter(p), letters[p]);
        says(28, "Returns the weight of the current string.");
        string("abb");
        due("with weights of 1", x.stringWeight(), 3);
        weights(7, 30, 90);
        due("with other weights", x.stringWeight(), 67);
    }

    static void oneStep() {
        says(29, "Rewrites the current string by one step.");
        says(29, "Returns the new length;");
        rules("a>bb", "bb>a", "b>");
        string("aaa");
        due("longer", x.rewrite(0, 1), 4);
        dueString("abba");
        due("shorter", x.rewrite(2, 2), 3);
        dueString("aba");
    }

    static void normalizing() {
        says(30, "Each step uses the lowest position at which a step is possible, and there the rule with the lowest number.");
        rules("cb>a", "b>c", "b>a", "a>b");
        string("ccb");
        due("one step: cb at position 1 before b at 2", x.normalize(1), 1);
        dueString("ca");
        due("one step: a at position 1", x.normalize(1), 1);
        dueString("cb");
        due("one step: rule 0 at position 0", x.normalize(1), 1);
        dueString("a");
        string("ba");
        due("one step: rule 1 before rule 2", x.normalize(1), 1);
        dueString("ca");
        says(30, "Returns the number of steps that were made;");
        rules("a>b");
        string("aaaaa");
        due("as many as asked", x.normalize(3), 3);
        due("as many as there are", x.normalize(3), 2);
        due("none", x.normalize(3), 0);
    }

    static void derivationLengths() {
        says(31, "Returns the length of the longest derivation from the current string, that is, the maximum number of rewriting"
            + " steps in a row.");
        says(31, "Returns the length;");
        rules("ab>ba", "aab>c");
        string("aabb");
        due("four exchanges; with c it ends sooner", x.longestDerivation(), 4);
        rules("c>ab");
        due("aabb, abab, abba, baab, bc, bab, bba", x.longestDerivation(), 5);
        dueString("aabb");
    }

    static void theOrderOfTheSearch() {
        says(32, "The strings are found by breadth-first search from the left side: strings are expanded in the order in which they"
            + " were found, by ascending positions and, at each position, by ascending rules;");
        // Of two loops of three steps, the one whose second string was found first is taken.
        fresh(6);
        rules("ab>cd", "d>f", "c>e", "ed>ab", "cf>ab");
        due("breadth first", x.findLoop(0), 3);
        dueSteps(0, 0, 2, 0, 3, 0);
        fresh(6);
        rules("ab>cd", "c>f", "c>e", "ed>ab", "fd>ab");
        due("ascending rules at one position", x.findLoop(0), 3);
        dueSteps(0, 0, 1, 0, 4, 0);
        fresh();
        rules("a>bb", "b>a");
        due("ascending positions", x.findLoop(0), 2);
        dueSteps(0, 0, 1, 0);
        fresh(6);
        rules("a>b", "a>c", "c>a", "b>d", "d>a");
        due("a shorter loop behind a longer way", x.findLoop(0), 2);
        dueSteps(1, 0, 2, 0);
    }

    static void howStringsWereFirstFound() {
        says(32, "(The first steps of the derivation are those by which its strings were first found.)");
        fresh(6);
        rules("ab>cd", "c>e", "d>f", "ef>ab");
        due("ef comes from ed first", x.findLoop(0), 4);
        dueSteps(0, 0, 1, 0, 2, 1, 3, 0);
        says(32, "Returns the number of steps of the loop;");
        rules("a>b", "b>c", "c>aa");
        due("three steps", x.findLoop(0), 3);
        due("three steps", x.findLoop(1), 3);
    }

    /** The stored loop: a rule and a position for each step. */
    private static void dueSteps(int... steps) {
        for (int i = 0; i < steps.length; i++) due("step " + i / 2, x.loopStep(i / 2, i % 2), steps[i]);
        due("no more steps", x.loopStep(steps.length / 2, 0), -6);
    }

    static void loopSteps() {
        says(33, "Returns one step of the stored loop.");
        says(33, "`step`: the step, from 0");
        says(33, "`what`: 0 for the rule, 1 for the position");
        says(33, "Returns the rule or the position;");
        rules("c>bb", "ab>cac", "ca>bab");
        due("findLoop", x.findLoop(1), 2);
        due("rule of step 0", x.loopStep(0, 0), 1);
        due("position of step 0", x.loopStep(0, 1), 0);
        due("rule of step 1", x.loopStep(1, 0), 2);
        due("position of step 1", x.loopStep(1, 1), 0);
        says(33, "`what`: 0 for the rule, 1 for the position");
        rules("a>bc", "c>a");
        due("findLoop", x.findLoop(0), 2);
        due("rule of step 1", x.loopStep(1, 0), 1);
        due("position of step 1", x.loopStep(1, 1), 1);
    }

    static void improving() {
        says(34, "Improves the approximate weights.");
        rules("a>b");
        due("two eighths in each round", x.improve(1), 0);
        due("margin", x.margin(0), 250000);
        due("enough", x.improve(1), 1);
        due("margin", x.margin(0), 500000);
        says(34, "In each round the rules are visited in ascending order.");
        // The first rule takes b down to 0 and the second one brings it up; the other way round b would end at 0.
        rules("a>bbbbb", "b>");
        x.setApproximateWeight(1, 1, 4);
        due("improve", x.improve(1), 1);
        due("a", x.approximateWeight(0), 1125000);
        due("b", x.approximateWeight(1), 125000);
    }

    static void quotients() {
        says(35, "Sets an approximate weight to the quotient of two integers, which are converted to float and divided in float"
            + " arithmetic.");
        int[][] all = {{1, 3}, {2, 3}, {999999, 7}, {1000000, 999999}, {1, 1000000}, {5, 8}};
        for (int[] q : all) {
            x.setApproximateWeight(0, q[0], q[1]);
            float quotient = (float) q[0] / (float) q[1];
            due(q[0] + " / " + q[1], x.approximateWeight(0), (long) ((double) quotient * 1000000.0));
        }
        says(36, "Returns an approximate weight times 1000000.");
        says(36, "The approximate weight is converted to double, multiplied by 1000000.0 and cast to long.");
        says(36, "Returns the result;");
        x.setApproximateWeight(1, 5, 2);
        due("2.5", x.approximateWeight(1), 2500000);
        x.setApproximateWeight(2, 7, 10);
        due("0.7f is a little less than 0.7, which a product of floats would lose", x.approximateWeight(2), 699999);
    }

    static void margins() {
        says(37, "Returns the margin of a rule times 1000000, computed as for approximateWeight.");
        says(37, "Returns the result;");
        rules("aab>c", "a>bb");
        due("2", x.margin(0), 2000000);
        due("-1", x.margin(1), -1000000);
        x.setApproximateWeight(0, 7, 10);
        x.setApproximateWeight(1, 0, 1);
        x.setApproximateWeight(2, 0, 1);
        due("0.7f in double", x.margin(1), 699999);
        x.setApproximateWeight(0, 0, 1);
        x.setApproximateWeight(2, 7, 10);
        due("-0.7f in double, cut off towards 0", x.margin(0), -699999);
    }

    static void sizes() {
        says(39, "Returns the size;");
        says(39, "`size`: the number of elements");
        for (int size = 0; size <= 40; size++) {
            due("allocate", x.allocate(1, 1, size), size);
            due("the last element", x.element(1, size - 1), size == 0 ? Long.MIN_VALUE : 0);
            due("no further element", x.element(1, size), Long.MIN_VALUE);
        }
    }

    static void elements() {
        says(41, "Sets an array element.");
        says(41, "Returns 1;");
        fill(3, 0, 4, 5, 6);
        due("putElement", x.putElement(3, 1, 99), 1);
        due("the array", array(3), "4 99 6");
        says(43, "Returns the element;");
        fill(0, 1, 11, 12);
        fill(1, 2, 21, 22);
        due("of one slot", x.element(0, 1), 12);
        due("of another slot", x.element(1, 0), 21);
    }

    static void division() {
        says(42, "Divides an element of an array of floats or doubles by a number, in the arithmetic of the element type.");
        says(42, "Returns 1;");
        for (int type = 2; type < 4; type++) {
            fill(type, type, 100, 1000000007, 100);
            due("1000000007 / 7", x.divideElement(type, 1, 7), 1);
        }
        due("in float", array(2), "100 " + (long) ((float) 1000000007 / (float) 7) + " 100");
        due("in double", array(3), "100 142857143 100");
    }

    static void copies() {
        says(44, "`source`: the slot to copy from");
        says(44, "`sourceIndex`: the index of the first element to copy");
        says(44, "`target`: the slot to copy to");
        says(44, "`targetIndex`: the index of the first element to overwrite");
        says(44, "`count`: the number of elements");
        says(44, "Returns the count;");
        fill(1, 1, 10, 11, 12, 13, 14);
        fill(3, 1, 30, 31, 32, 33);
        due("copyElements", x.copyElements(1, 3, 3, 1, 2), 2);
        due("the source", array(1), "10 11 12 13 14");
        due("the target", array(3), "30 13 14 33");
    }

    static void elementsOfRules() {
        says(45, "The element at index i belongs to rule i;");
        rules("a>", "b>b", "c>");
        for (int i = 0; i < 3; i++) {
            fill(0, 0, i == 0 ? 1 : 0, i == 1 ? 1 : 0, i == 2 ? 1 : 0);
            due("rule " + i + " alone", x.checkCertificate(0), i == 1 ? 1 : 0);
        }
    }

    static void snapshots() {
        says(46, "Takes a snapshot of the number of letters, the rules, the weights, the levels, the status, the approximate weights"
            + " and the current string.");
        says(47, "Restores the snapshot.");
        fresh(4);
        fillAll();
        due("snapshot", x.snapshot(), 2);
        x.reset(6);
        rules("f>e");
        string("fff");
        due("restore", x.restore(), 2);
        dueAll();
        x.removeRule(0);
        weights(1, 1, 1, 1);
        levels(0, 0, 0, 0);
        x.setStatus(0);
        x.improve(5);
        x.normalize(3);
        due("restore", x.restore(), 2);
        dueAll();
    }

    private static void fillAll() {
        rules("ab>dc", "d>");
        weights(2, 4, 6, 8);
        levels(9, 7, 5, 3);
        x.setStatus(1);
        for (int k = 0; k < 4; k++) x.setApproximateWeight(k, k + 1, 2);
        string("abcd");
    }

    private static void dueAll() {
        due("letters", x.letters(), 4);
        due("rule 0", x.ruleLetter(0, 1, 0), 3);
        due("its balance", x.balance(0, 3), 99);
        due("rule 1", x.ruleLetter(1, 0, 0), 3);
        dueWeights(2, 4, 6, 8, -2);
        dueLevels(9, 7, 5, 3, -2);
        due("status", x.setStatus(1), 1);
        for (int k = 0; k < 4; k++) due("approximateWeight", x.approximateWeight(k), (k + 1) * 500000L);
        dueString("abcd");
    }
}
