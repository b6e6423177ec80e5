/** The boundary cases that the document's description names, before its first promise. */
final class DescriptionBoundaries extends Sentences {
    static void calls() {
        says(0, "An object is used for at most 512 calls after it has been made;");
        for (int call = 1; call <= 255; call++) {
            due("append", x.append('a', 1), 1);
            due("clearInput", x.clearInput(), 1);
        }
        due("call 511", x.append('b', 2), 2);
        due("call 512", x.setString(), 2);
    }

    static void lettersOfTheAlphabet() {
        says(0, "The alphabet has n letters, 1 to 6, numbered from 0 and written a, b, c, d, e, f.");
        for (int n = 1; n <= 6; n++) {
            fresh(n);
            for (int k = 0; k < n; k++) {
                due("a string of letter " + k, string(String.valueOf("abcdef".charAt(k))), 1);
                due("its letter", x.stringLetter(0), k);
                due("its weight", x.weight(k), 1);
            }
            String beyond = String.valueOf("abcdefg".charAt(n));
            due("a string of the letter after the last", string(beyond), -5);
            due("a left side of it", rule(beyond + ">a"), -5);
            due("a right side of it", rule("a>" + beyond), -5);
            due("its weight", x.weight(n), -2);
        }
    }

    static void stringsOfTwelve() {
        says(0, "A string is a sequence of at most 12 letters;");
        due("12 letters", string("abcabcabcabc"), 12);
        due("13 letters", string("abcabcabcabca"), -5);
        due("40 letters", string("a".repeat(40)), -5);
        dueString("abcabcabcabc");
    }

    static void emptyStrings() {
        says(0, "it may be empty.");
        rules("a>");
        string("a");
        due("rewritten to nothing", x.rewrite(0, 0), 0);
        due("stringLength", x.stringLength(), 0);
        due("stringLetter", x.stringLetter(0), -6);
        due("stringWeight", x.stringWeight(), 0);
        due("compared with itself", x.compareWithInput(), 1);
        due("normalize", x.normalize(1000), 0);
        due("longestDerivation", x.longestDerivation(), 0);
        due("rewrite", x.rewrite(0, 0), -9);
    }

    static void eightRulesAtMost() {
        says(0, "A rewriting system has up to 8 rules, numbered from 0.");
        due("no rule 0", x.compareSides(0), -3);
        for (int r = 0; r < 8; r++) due("rule", rule("a>b"), r);
        due("rule 7 is there", x.compareSides(7), 1);
        due("rule 8 is not", x.compareSides(8), -3);
        due("a ninth rule", rule("a>b"), -4);
        due("ruleCount", x.ruleCount(), 8);
    }

    static void sidesOfARule() {
        says(0, "A rule has a left side of 1 to 6 letters and a right side of 0 to 6 letters.");
        for (int left = 0; left <= 8; left++) {
            for (int right = 0; right <= 8; right++) {
                fresh();
                boolean good = left >= 1 && left <= 6 && right <= 6;
                due(left + " letters to " + right, rule("a".repeat(left) + ">" + "b".repeat(right)), good ? 0 : -5);
                if (!good) continue;
                due("last of the left side", x.ruleLetter(0, 0, left - 1), 0);
                due("after the left side", x.ruleLetter(0, 0, left), -6);
                due("last of the right side", x.ruleLetter(0, 1, right - 1), right == 0 ? -6 : 1);
                due("after the right side", x.ruleLetter(0, 1, right), -6);
            }
        }
    }

    static void occurrences() {
        says(0, "the occurrence is replaced by the right side.");
        rules("aa>bc", "aaaaaa>", "aaa>aaa");
        string("aaa");
        due("the first of two that overlap", x.rewrite(0, 0), 3);
        dueString("bca");
        string("aaa");
        due("the last of two that overlap", x.rewrite(0, 1), 3);
        dueString("abc");
        string("aaa");
        due("one letter short of the end", x.rewrite(0, 2), -9);
        due("the whole string by itself", x.rewrite(2, 0), 3);
        dueString("aaa");
        string("b" + "a".repeat(11));
        due("the last six of twelve", x.rewrite(1, 6), 6);
        dueString("baaaaa");
    }

    static void positions() {
        says(0, "Positions are counted from 0.");
        rules("abc>cba", "b>a");
        string("abc");
        due("ruleLetter", x.ruleLetter(0, 0, 0), 0);
        due("stringLetter", x.stringLetter(0), 0);
        due("rewrite at 1", x.rewrite(0, 1), -9);
        due("rewrite at 0", x.rewrite(0, 0), 3);
        dueString("cba");
    }

    static void stepsThatAreTooLong() {
        says(0, "A rewriting step that would make a string of more than 12 letters is not possible.");
        rules("a>bbb", "a>bb");
        string("ccccccccccca");
        due("rewrite to 14", x.rewrite(0, 11), -9);
        due("rewrite to 13", x.rewrite(1, 11), -9);
        due("normalize", x.normalize(1), 0);
        due("longestDerivation", x.longestDerivation(), 0);
        dueString("ccccccccccca");
        string("cccccccccca");
        due("longestDerivation", x.longestDerivation(), 1);
        due("rewrite to 13", x.rewrite(0, 10), -9);
        due("rewrite to 12", x.rewrite(1, 10), 12);
        string("ccccccccca");
        due("rewrite to 12", x.rewrite(0, 9), 12);
        fresh(5);
        rules("a>bccccc", "b>dddddd", "dc>eee", "eee>a");
        due("findLoop through a string of 12", x.findLoop(0), 4);
        fresh(5);
        rules("a>bccccc", "b>dddddd", "dc>eeee", "eeee>a");
        due("findLoop through a string of 13", x.findLoop(0), -6);
    }

    static void weightsOfLetters() {
        says(0, "Each letter has an integer weight, 0 to 99, initially 1.");
        fresh(6);
        dueWeights(1, 1, 1, 1, 1, 1, -2);
        due("0", x.setWeight(5, 0), 1);
        due("99", x.setWeight(5, 99), 0);
        due("100", x.setWeight(5, 100), -1);
        due("-1", x.setWeight(5, -1), -1);
        dueWeights(1, 1, 1, 1, 1, 99, -2);
    }

    static void levelsOfLetters() {
        says(0, "Each letter has a level, 0 to 9, initially 0.");
        fresh(6);
        dueLevels(0, 0, 0, 0, 0, 0, -2);
        due("9", x.setLevel(5, 9), 0);
        due("10", x.setLevel(5, 10), -1);
        due("-1", x.setLevel(5, -1), -1);
        dueLevels(0, 0, 0, 0, 0, 9, -2);
        due("0", x.setLevel(5, 0), 9);
    }

    static void equalLevels() {
        says(0, "Letters with equal levels are equivalent.");
        levels(7, 7, 8);
        string("a");
        type("b");
        due("equal levels", x.compareWithInput(), 1);
        type("c");
        due("a level more", x.compareWithInput(), 0);
        string("c");
        type("a");
        due("a level less", x.compareWithInput(), 2);
    }

    static void firstStatus() {
        says(0, "it is initially 0.");
        due("setStatus", x.setStatus(0), 0);
        levels(1, 0, 0);
        string("ab");
        type("ba");
        due("from left to right", x.compareWithInput(), 2);
    }

    static void weightsDecideFirst() {
        says(0, "If their weights differ, the string with the larger weight is greater.");
        weights(3, 1, 0);
        levels(0, 8, 9);
        string("a");
        type("bbccccccc");
        due("3 with 2, against levels and length", x.compareWithInput(), 2);
        type("bbb");
        due("3 with 3: the levels", x.compareWithInput(), 0);
        type("bbbb");
        due("3 with 4", x.compareWithInput(), 0);
        weights(99, 99, 98);
        string("aaaaaaaaaaaa");
        type("aaaaaaaaaaac");
        due("1188 with 1187", x.compareWithInput(), 2);
    }

    static void firstPairDecides() {
        says(0, "Otherwise their letters are compared pairwise, starting with the first letters for status 0, and with the last"
            + " letters for status 1: the first pair of letters with different levels decides, and the string with the greater letter"
            + " is greater.");
        levels(0, 1, 1);
        string("acaaaaaaaaab");
        type("abaaaaaaaaba");
        due("from the left, the last pair but one", x.compareWithInput(), 0);
        x.setStatus(1);
        type("abaaaaaaaaba");
        due("from the right, the last pair", x.compareWithInput(), 2);
        weights(2, 1, 1);
        string("ba");
        type("bbb");
        due("from the right, with other lengths", x.compareWithInput(), 0);
        x.setStatus(0);
        type("bbb");
        due("from the left, the second pair", x.compareWithInput(), 0);
        type("ac");
        due("from the left, the first pair", x.compareWithInput(), 2);
        for (int length = 1; length <= 12; length++) {
            for (int place = 0; place < length; place++) {
                for (int status = 0; status <= 1; status++) comparePlaces(length, place, status);
            }
        }
    }

    /** One string has its only b at a place, the other one nowhere, or at the place that is compared next. */
    private static void comparePlaces(int length, int place, int status) {
        fresh();
        levels(0, 1, 0);
        x.setStatus(status);
        String all = "a".repeat(length);
        String one = withB(all, place);
        String next = withB(all, status == 0 ? place + 1 : place - 1);
        string(one);
        type(all);
        due(one + " with " + all, x.compareWithInput(), 2);
        type(next);
        due(one + " with " + next, x.compareWithInput(), 2);
        string(next);
        type(one);
        due(next + " with " + one, x.compareWithInput(), 0);
        string(all);
        type(one);
        due(all + " with " + one, x.compareWithInput(), 0);
    }

    private static String withB(String all, int place) {
        return place < 0 || place >= all.length() ? all : all.substring(0, place) + "b" + all.substring(place + 1);
    }

    static void longerIsGreater() {
        says(0, "If no pair decides, the longer string is greater.");
        weights(0, 1, 1);
        string("b");
        type("cb");
        due("lighter", x.compareWithInput(), 0);
        type("ba");
        due("one letter longer", x.compareWithInput(), 0);
        type("");
        due("heavier than nothing", x.compareWithInput(), 2);
        string("a");
        due("longer than nothing, with no weight", x.compareWithInput(), 2);
        string("");
        type("a");
        due("nothing with a letter of no weight", x.compareWithInput(), 0);
        for (int status = 0; status <= 1; status++) {
            x.setStatus(status);
            string("aaaaaaaaaaaa");
            type("aaaaaaaaaaa");
            due("12 letters with 11", x.compareWithInput(), 2);
        }
    }

    static void equalLengths() {
        says(0, "If the lengths are equal, too, the strings are equivalent.");
        due("nothing with nothing", x.compareWithInput(), 1);
        string("abcabcabcabc");
        type("cbacbacbacba");
        due("twelve letters of one level", x.compareWithInput(), 1);
        levels(1, 2, 3);
        type("abcabcabcabc");
        due("the same string", x.compareWithInput(), 1);
    }

    static void admissible() {
        says(0, "The weights and levels are admissible if no letter has weight 0, or if exactly one letter has weight 0 and its level"
            + " is higher than that of every other letter.");
        fresh(6);
        due("no letter", x.isAdmissible(), 1);
        levels(3, 3, 3, 3, 3, 3);
        for (int zero = 0; zero < 6; zero++) {
            x.setWeight(zero, 0);
            due("level as high as the others", x.isAdmissible(), 0);
            x.setLevel(zero, 4);
            due("level one higher", x.isAdmissible(), 1);
            int other = (zero + 1) % 6;
            x.setLevel(other, 4);
            due("as high as one other", x.isAdmissible(), 0);
            x.setLevel(other, 5);
            due("lower than one other", x.isAdmissible(), 0);
            x.setLevel(other, 3);
            x.setWeight(other, 0);
            due("two letters", x.isAdmissible(), 0);
            x.setWeight(other, 1);
            x.setWeight(zero, 1);
            x.setLevel(zero, 3);
        }
        weights(0, 0, 0, 0, 0, 0);
        levels(9, 0, 0, 0, 0, 0);
        due("all letters", x.isAdmissible(), 0);
    }

    static void approximateWeights() {
        says(0, "Each letter has an approximate weight of type float, initially 1.0f.");
        fresh(6);
        for (int k = 0; k < 6; k++) {
            due("approximateWeight", x.approximateWeight(k), 1000000);
            due("set to 1", x.setApproximateWeight(k, 1000000, 1000000), 0);
        }
        due("a letter more", x.approximateWeight(6), Long.MIN_VALUE);
    }

    static void bytesOfTheBuffer() {
        says(0, "The input buffer holds up to 40 bytes, each 0 to 127.");
        for (int value = 0; value <= 127; value++) {
            due("append", x.append(value, 40), 40);
            due("append to a full one", x.append(value, 1), -4);
            fresh();
        }
        dueEach("append", value -> x.append(value, 1), -1, -1, 128, -128, 255, 256 + 'a', MIN, MAX);
        due("clearInput", x.clearInput(), 0);
    }

    static void consumedBuffer() {
        says(0, "The methods that read it consume its content, even if they return an error.");
        due("addRule", rule("a>b"), 0);
        due("clearInput", x.clearInput(), 0);
        due("addRule with an error", rule("a>d"), -5);
        due("clearInput", x.clearInput(), 0);
        due("setString", string("ab"), 2);
        due("clearInput", x.clearInput(), 0);
        due("setString with an error", string("ab>"), -5);
        due("clearInput", x.clearInput(), 0);
        type("ab");
        due("compareWithInput", x.compareWithInput(), 1);
        due("clearInput", x.clearInput(), 0);
        type("ab>");
        due("compareWithInput with an error", x.compareWithInput(), -5);
        due("clearInput", x.clearInput(), 0);
    }

    static void textsThatAreStrings() {
        says(0, "A text is a string of the alphabet if it consists of 0 to 12 of the letters that exist.");
        String[] good = {"", "a", "c", "cccccccccccc"};
        String[] wrong = {"d", "aaaaaaaaaaad", "ccccccccccccc", "`", "{", "A", "C", " ", "a ", " a", "a>", ">", "1", "\u0000", "a\u0000", "\u007f"};
        for (String text : good) {
            fresh();
            due("setString of '" + text + "'", string(text), text.length());
            dueString(text);
            type(text);
            due("compareWithInput of '" + text + "'", x.compareWithInput(), 1);
        }
        for (String text : wrong) {
            fresh();
            due("setString of '" + text + "'", string(text), -5);
            type(text);
            due("compareWithInput of '" + text + "'", x.compareWithInput(), -5);
        }
    }

    static void fourSlots() {
        says(0, "There are four array slots, numbered 0 to 3.");
        for (int slot = 0; slot < 4; slot++) fill(slot, 1, 10 + slot);
        for (int slot = 0; slot < 4; slot++) due("element", x.element(slot, 0), 10 + slot);
        dueEach("allocate", slot -> x.allocate(slot, 1, 1), -1, -1, 4, MIN, MAX);
        for (int slot = 0; slot < 4; slot++) due("element", x.element(slot, 0), 10 + slot);
    }

    static void arraysOfForty() {
        says(0, "A slot is empty, or holds an array of ints, longs, floats or doubles with at most 40 elements.");
        for (int type = 0; type < 4; type++) {
            int t = type;
            due("40 elements", x.allocate(type, type, 40), 40);
            due("the last one", x.putElement(type, 39, 7), 1);
            due("one more", x.putElement(type, 40, 7), -13);
            dueEach("allocate", size -> x.allocate(t, t, size), -1, 41, 42, MAX);
            due("the old array is there", x.element(type, 39), 7);
        }
    }

    static void emptySlots() {
        says(0, "All slots are initially empty.");
        for (int slot = 0; slot < 4; slot++) {
            due("element", x.element(slot, 0), Long.MIN_VALUE);
            due("putElement", x.putElement(slot, 0, 1), -11);
            due("divideElement", x.divideElement(slot, 0, 1), -11);
            due("copyElements", x.copyElements(slot, 0, slot, 0, 0), -11);
            due("checkCertificate", x.checkCertificate(slot), -11);
            due("release", x.release(slot), 0);
        }
    }

    static void newAnalyser() {
        says(0, "A new analyser has 3 letters and no rules.");
        due("letters", x.letters(), 3);
        due("weight of c", x.weight(2), 1);
        due("weight of d", x.weight(3), -2);
        due("ruleCount", x.ruleCount(), 0);
        due("rule 0", x.removeRule(0), -3);
        says(0, "The input buffer is empty;");
        due("clearInput", x.clearInput(), 0);
        says(0, "the current string is empty;");
        due("stringLength", x.stringLength(), 0);
        due("stringLetter", x.stringLetter(0), -6);
        says(0, "no loop is stored.");
        due("loopStep", x.loopStep(0, 0), -6);
        due("loopStep", x.loopStep(0, 1), -6);
    }

    static void fullOfRules() {
        says(0, "The buffer is consumed also by a call that finds it full of rules.");
        eightRules();
        for (String text : new String[] {"", "a>b", "a>d", "aaaaaaaaaa"}) {
            due("addRule", rule(text), -4);
            due("clearInput", x.clearInput(), 0);
        }
    }

    static void longSides() {
        says(0, "A left or right side with too many letters is wrong.");
        due("left", rule("aaaaaaa>a"), -5);
        due("right", rule("a>aaaaaaa"), -5);
        due("both", rule("aaaaaaa>aaaaaaa"), -5);
        due("left, as long as can be", rule("a".repeat(39) + ">"), -5);
        due("right, as long as can be", rule("a>" + "a".repeat(38)), -5);
        due("ruleCount", x.ruleCount(), 0);
        due("six and six", rule("aaaaaa>aaaaaa"), 0);
    }

    static void loopStays() {
        says(0, "A stored loop stays when a rule is added, and when no loop is found.");
        storeLoop();
        rules("b>c");
        dueLoop(true);
        due("a rule that is refused", rule("?"), -5);
        dueLoop(true);
        due("no loop: all strings expanded", x.findLoop(1), -6);
        dueLoop(true);
        due("no loop: no such rule", x.findLoop(2), -3);
        dueLoop(true);
        fresh(5);
        rules("e>ee", "dd>aaaaaa", "a>b", "b>c");
        due("findLoop", x.findLoop(0), 1);
        due("no loop: too many strings", x.findLoop(1), -7);
        dueLoop(true);
    }

    static void withoutRules() {
        says(0, "Without rules, the least weights and levels fit, and there is no certificate.");
        for (int n = 1; n <= 6; n++) {
            fresh(n);
            for (int k = 0; k < n; k++) x.setLevel(k, 9);
            due("findLevels", x.findLevels(), 0);
            for (int k = 0; k < n; k++) due("level", x.level(k), 0);
            due("findWeights", x.findWeights(6), 0);
            for (int k = 0; k < n; k++) due("weight", x.weight(k), 0);
            due("findCertificate", x.findCertificate(), -6);
            due("firstUnoriented", x.firstUnoriented(), -6);
        }
        fresh();
        rules("a>");
        x.removeRule(0);
        due("findWeights after the last rule is gone", x.findWeights(1), 0);
        due("findCertificate after the last rule is gone", x.findCertificate(), -6);
    }

    static void oneLetter() {
        says(0, "With one letter, its level is higher than that of all others.");
        fresh(1);
        weights(0);
        due("isAdmissible", x.isAdmissible(), 1);
        due("findLevels", x.findLevels(), 0);
        rules("aa>a");
        due("findLevels", x.findLevels(), 0);
        due("findOrder", x.findOrder(), 1);
        dueWeights(0);
        dueLevels(0);
    }

    static void stepsPassedOver() {
        says(0, "In a normalization, a step that would make a string too long is passed over for the next place and rule.");
        rules("a>bb", "a>b", "b>c");
        string("aaaaaaaaaaaa");
        due("the next rule at the same place", x.normalize(1), 1);
        dueString("baaaaaaaaaaa");
        x.removeRule(1);
        string("aaaaaaaaaaab");
        due("the next place, at the end", x.normalize(1), 1);
        dueString("aaaaaaaaaaac");
        due("none that is possible", x.normalize(1000), 0);
        dueString("aaaaaaaaaaac");
        string("aaaaaaaaaaa");
        due("not too long", x.normalize(1), 1);
        dueString("bbaaaaaaaaaa");
    }

    static void marginsOfARound() {
        says(0, "The margins of a round are by the weights as they are when a rule is visited.");
        rules("aa>b", "ab>c");
        x.setApproximateWeight(0, 1, 2);
        x.setApproximateWeight(2, 9, 8);
        // The first rule's margin is 0: a gets 0.75 and b 0.875; only then is the second rule's margin 0.5.
        due("improve", x.improve(1), 2);
        due("a", x.approximateWeight(0), 750000);
        due("b", x.approximateWeight(1), 875000);
        due("c", x.approximateWeight(2), 1125000);
    }

    static void changedFloats() {
        says(0, "An approximate weight has changed if it is another float.");
        due("1 to 1", x.setApproximateWeight(0, 7, 7), 0);
        due("1 to the next float below that a quotient gives", x.setApproximateWeight(0, 999999, 1000000), 1);
        due("and again", x.setApproximateWeight(0, 999999, 1000000), 0);
        due("1/3", x.setApproximateWeight(1, 333333, 999999), 1);
        due("1/3, of other numbers", x.setApproximateWeight(1, 1, 3), 0);
        due("another float with the same millionths", x.setApproximateWeight(1, 333334, 1000000), 1);
        due("0", x.setApproximateWeight(2, 0, 1), 1);
        due("0, of other numbers", x.setApproximateWeight(2, 0, 1000000), 0);
    }

    static void noCertificates() {
        says(0, "An array with a negative element, or with zeros only, is no certificate.");
        rules("a>aa", "b>bb", "c>cc");
        fill(0, 0, 1, 1, 1);
        due("1 1 1", x.checkCertificate(0), 1);
        for (int i = 0; i < 3; i++) {
            fill(0, 0, 5, 5, 5);
            x.putElement(0, i, 0);
            due("one zero", x.checkCertificate(0), 1);
            x.putElement(0, i, -1);
            due("one below zero", x.checkCertificate(0), 0);
            x.putElement(0, i, MIN);
            due("one far below zero", x.checkCertificate(0), 0);
        }
        fill(0, 0, 0, 0, 0);
        due("zeros", x.checkCertificate(0), 0);
        x.putElement(0, 2, 1);
        due("0 0 1", x.checkCertificate(0), 1);
    }

    static void emptyBuffer() {
        says(0, "An empty buffer is the empty string.");
        string("abc");
        due("compareWithInput", x.compareWithInput(), 2);
        due("setString", x.setString(), 0);
        dueString("");
        due("compareWithInput", x.compareWithInput(), 1);
        due("addRule", x.addRule(), -5);
    }

    static void whatStaysAtARestore() {
        says(0, "The buffer and the arrays stay at a restore.");
        fill(0, 0, 1, 2);
        fill(1, 3, 8);
        type("a");
        x.snapshot();
        x.putElement(0, 1, 5);
        x.release(1);
        fill(2, 1, 6, 7, 8);
        type("b");
        due("restore", x.restore(), 0);
        due("slot 0", array(0), "1 5");
        due("slot 1", x.release(1), 0);
        due("slot 2", array(2), "6 7 8");
        due("setString", x.setString(), 2);
        dueString("ab");
    }

    static void constants() {
        says(0, "`BAD_ARGUMENT = -1`: An argument is out of range, and no more specific error code applies.");
        due("BAD_ARGUMENT", RewritingTermination.BAD_ARGUMENT, -1);
        due("a weight out of range", x.setWeight(0, 100), -1);
        due("a letter that is not there applies more", x.setWeight(3, 100), -2);
        due("a size below 0 applies more", x.allocate(0, 0, -1), -14);
        says(0, "`NO_SUCH_LETTER = -2`: There is no such letter.");
        due("NO_SUCH_LETTER", RewritingTermination.NO_SUCH_LETTER, -2);
        due("weight", x.weight(3), -2);
        says(0, "`NO_SUCH_RULE = -3`: There is no such rule.");
        due("NO_SUCH_RULE", RewritingTermination.NO_SUCH_RULE, -3);
        due("compareSides", x.compareSides(0), -3);
        says(0, "`FULL = -4`: There is no room for another rule or byte.");
        due("FULL", RewritingTermination.FULL, -4);
        eightRules();
        due("a rule", x.addRule(), -4);
        x.append(0, 40);
        due("a byte", x.append(0, 1), -4);
        says(0, "`BAD_INPUT = -5`: The input buffer does not hold what the method needs.");
        due("BAD_INPUT", RewritingTermination.BAD_INPUT, -5);
        due("addRule", x.addRule(), -5);
        says(0, "`NONE = -6`: There is no result.");
        due("NONE", RewritingTermination.NONE, -6);
        due("findCertificate", x.findCertificate(), -6);
        says(0, "`LIMIT_EXCEEDED = -7`: More strings were found than the method can handle.");
        due("LIMIT_EXCEEDED", RewritingTermination.LIMIT_EXCEEDED, -7);
        rules("a>b", "b>c");
        string("aaaaaaaaaaaa");
        due("longestDerivation", x.longestDerivation(), -7);
    }

    static void constantsOfLaterPromises() {
        says(0, "`ALPHABET_TOO_LARGE = -8`: The alphabet has too many letters for the method.");
        due("ALPHABET_TOO_LARGE", RewritingTermination.ALPHABET_TOO_LARGE, -8);
        x.reset(6);
        due("findOrder", x.findOrder(), -8);
        says(0, "`NOT_APPLICABLE = -9`: The rewriting step is not possible.");
        due("NOT_APPLICABLE", RewritingTermination.NOT_APPLICABLE, -9);
        rules("a>b");
        due("rewrite", x.rewrite(0, 0), -9);
        says(0, "`EMPTY_SLOT = -11`: The array slot is empty.");
        due("EMPTY_SLOT", RewritingTermination.EMPTY_SLOT, -11);
        due("putElement", x.putElement(0, 0, 0), -11);
        says(0, "`WRONG_TYPE = -12`: The array has another element type than required.");
        due("WRONG_TYPE", RewritingTermination.WRONG_TYPE, -12);
        fill(0, 1, 5);
        due("divideElement", x.divideElement(0, 0, 1), -12);
        says(0, "`INDEX_OUT_OF_RANGE = -13`: An array index is out of range.");
        due("INDEX_OUT_OF_RANGE", RewritingTermination.INDEX_OUT_OF_RANGE, -13);
        fill(0, 1, 5);
        due("putElement", x.putElement(0, 1, 0), -13);
        says(0, "`NEGATIVE_SIZE = -14`: An array size is negative.");
        due("NEGATIVE_SIZE", RewritingTermination.NEGATIVE_SIZE, -14);
        due("allocate", x.allocate(0, 0, -1), -14);
        says(0, "`NO_VALUE = Long.MIN_VALUE`: Returned by methods of type long if an argument is invalid.");
        due("NO_VALUE", RewritingTermination.NO_VALUE, Long.MIN_VALUE);
        due("approximateWeight", x.approximateWeight(3), Long.MIN_VALUE);
        due("margin", x.margin(0), Long.MIN_VALUE);
        due("element", x.element(0, 0), Long.MIN_VALUE);
    }
}
