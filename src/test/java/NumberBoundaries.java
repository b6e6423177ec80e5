/** The boundary cases of promises 34 to 47: approximate weights, arrays, certificates, snapshots. */
final class NumberBoundaries extends Sentences {
    static void smallMargins() {
        says(34, "If the margin of a rule is less than 0.5f, then for each letter in ascending order, the balance (converted to float)"
            + " times 0.125f is added to its approximate weight, in float arithmetic;");
        rules("a>b");
        x.setApproximateWeight(0, 3, 2);
        due("a margin of 0.5", x.improve(100), 1);
        due("a", x.approximateWeight(0), 1500000);
        due("b", x.approximateWeight(1), 1000000);
        x.setApproximateWeight(0, 749999, 500000);
        due("just less", x.margin(0) < 500000 && x.margin(0) > 499990 ? 1 : 0, 1);
        due("improve", x.improve(1), 1);
        due("a", x.approximateWeight(0), (long) ((749999f / 500000f + 0.125f) * 1000000.0));
        due("b", x.approximateWeight(1), 875000);
        due("c", x.approximateWeight(2), 1000000);
        x.reset(1);
        rules("a>a");
        due("a balance of 0", x.improve(100), 0);
        due("a", x.approximateWeight(0), 1000000);
        x.reset(2);
        rules("aaaaaa>bbbbbb");
        due("balances of 6 and -6", x.improve(1), 1);
        due("a", x.approximateWeight(0), 1750000);
        due("b", x.approximateWeight(1), 250000);
        x.reset(2);
        rules("a>b");
        x.setApproximateWeight(0, 1000000, 3);
        x.setApproximateWeight(1, 1000000, 3);
        due("rounded to float", x.improve(1), 0);
        due("a", x.approximateWeight(0), (long) ((double) (1000000f / 3f + 0.125f) * 1000000.0));
    }

    static void weightsBelowZero() {
        says(34, "a result below 0.0f is replaced by 0.0f.");
        rules("a>b");
        x.setApproximateWeight(0, 0, 1);
        x.setApproximateWeight(1, 1, 8);
        due("0.125 less 0.125", x.improve(1), 0);
        due("b is 0", x.approximateWeight(1), 0);
        due("0 as set", x.setApproximateWeight(1, 0, 1), 0);
        due("0 less 0.125", x.improve(1), 0);
        due("b stays 0", x.approximateWeight(1), 0);
        due("0 as set", x.setApproximateWeight(1, 0, 1), 0);
        x.setApproximateWeight(1, 1, 10);
        due("0.1 less 0.125", x.improve(1), 0);
        due("b is 0", x.approximateWeight(1), 0);
        x.setApproximateWeight(1, 125001, 1000000);
        due("0.125001 less 0.125", x.improve(1), 0);
        due("b is just above 0", x.approximateWeight(1), (long) ((double) (125001f / 1000000f - 0.125f) * 1000000.0));
        due("b is not 0", x.setApproximateWeight(1, 0, 1), 1);
        x.reset(1);
        rules("a>aaaaaa");
        due("all down to 0", x.improve(100), 0);
        due("a is 0", x.approximateWeight(0), 0);
        due("margin", x.margin(0), 0);
    }

    static void roundsOfImproving() {
        says(34, "`rounds`: the number of rounds, 1 to 100");
        rules("a>b");
        x.setApproximateWeight(1, 1000, 1);
        due("1", x.improve(1), 0);
        due("a", x.approximateWeight(0), 1125000);
        due("100", x.improve(100), 0);
        due("a", x.approximateWeight(0), 13625000);
        due("b", x.approximateWeight(1), 987375000);
        due("99", x.improve(99), 0);
        due("a", x.approximateWeight(0), 26000000);
        says(34, "Returns the number of rules whose margin is at least 0.5f after the last round;");
        due("without rules", x.improve(1), 0);
        rules("a>b", "c>");
        due("one of 1 and one of 0.25", x.improve(1), 1);
        due("one of 1 and one of 0.5", x.improve(1), 2);
        rules("b>a");
        due("after the last round, not as they were visited", x.improve(1), 1);
        due("margin", x.margin(0), 250000);
        x.reset(1);
        for (int r = 0; r < 8; r++) rules("a>");
        due("eight", x.improve(1), 8);
        says(34, "BAD_ARGUMENT if the number is out of range.");
        dueEach("without rules", x::improve, -1, 0, 101, -1, MIN, MAX);
        rules("a>b");
        dueEach("with a rule", x::improve, -1, 0, 101, -1, MIN, MAX);
        due("a", x.approximateWeight(0), 1000000);
        due("b", x.approximateWeight(1), 1000000);
    }

    static void quotients() {
        says(35, "`numerator`: the numerator, 0 to 1000000");
        due("0", x.setApproximateWeight(0, 0, 1), 1);
        due("0", x.approximateWeight(0), 0);
        due("1000000", x.setApproximateWeight(0, 1000000, 1), 1);
        due("1000000", x.approximateWeight(0), 1000000000000L);
        dueEach("numerator", numerator -> x.setApproximateWeight(0, numerator, 1), -1, -1, 1000001, MIN, MAX);
        due("it stays", x.approximateWeight(0), 1000000000000L);
        says(35, "`denominator`: the denominator, 1 to 1000000");
        due("1", x.setApproximateWeight(0, 2, 1), 1);
        due("2", x.approximateWeight(0), 2000000);
        due("1000000", x.setApproximateWeight(0, 2, 1000000), 1);
        due("0.000002", x.approximateWeight(0), (long) ((double) (2f / 1000000f) * 1000000.0));
        due("1000000 by itself", x.setApproximateWeight(0, 1000000, 1000000), 1);
        dueEach("denominator", denominator -> x.setApproximateWeight(0, 1, denominator), -1, 0, -1, 1000001, MIN, MAX);
        due("it stays", x.approximateWeight(0), 1000000);
        says(35, "Returns 1 if the approximate weight changed, 0 if not;");
        due("not", x.setApproximateWeight(2, 1, 1), 0);
        due("changed", x.setApproximateWeight(2, 0, 1), 1);
        due("not", x.setApproximateWeight(2, 0, 1), 0);
        due("changed", x.setApproximateWeight(2, 1, 1000000), 1);
    }

    static void refusedQuotients() {
        says(35, "NO_SUCH_LETTER (checked first);");
        dueEach("letter", letter -> x.setApproximateWeight(letter, 1, 2), -2, -1, 3, 6, 8, MIN, MAX);
        dueEach("with all wrong", letter -> x.setApproximateWeight(letter, -1, 0), -2, -1, 3, 6, 8, MIN, MAX);
        for (int k = 0; k < 3; k++) due("approximateWeight", x.approximateWeight(k), 1000000);
        says(35, "BAD_ARGUMENT if an argument is out of range.");
        x.setApproximateWeight(1, 5, 4);
        due("numerator", x.setApproximateWeight(1, -1, 1), -1);
        due("numerator", x.setApproximateWeight(1, 1000001, 1000000), -1);
        due("denominator", x.setApproximateWeight(1, 0, 0), -1);
        due("denominator", x.setApproximateWeight(1, 1, 1000001), -1);
        due("both", x.setApproximateWeight(1, MIN, MAX), -1);
        due("both below 0", x.setApproximateWeight(1, -1, -1), -1);
        due("it stays", x.approximateWeight(1), 1250000);
        says(36, "NO_VALUE if there is no such letter.");
        for (int letter : new int[] {-1, 3, 6, 8, MIN, MAX}) due("letter " + letter, x.approximateWeight(letter), Long.MIN_VALUE);
        x.reset(6);
        due("the sixth letter", x.approximateWeight(5), 1000000);
        due("the seventh letter", x.approximateWeight(6), Long.MIN_VALUE);
        says(37, "NO_VALUE if there is no such rule.");
        for (int rule : new int[] {-1, 0, 1, MIN, MAX}) due("without rules", x.margin(rule), Long.MIN_VALUE);
        eightRules();
        due("the eighth rule", x.margin(7), 1000000);
        for (int rule : new int[] {-1, 8, MIN, MAX}) due("with eight rules", x.margin(rule), Long.MIN_VALUE);
    }

    static void roundedWeights() {
        says(38, "Rounds the approximate weights to weights: each weight becomes the approximate weight converted to double, multiplied"
            + " by a factor and rounded by Math.rint, but at most 99.");
        int[][] cases = {{0, 1, 0}, {1, 2, 0}, {499999, 1000000, 0}, {500001, 1000000, 1}, {1, 1, 1}, {3, 2, 2}, {5, 2, 2}, {7, 2, 4},
            {195, 2, 98}, {197, 2, 98}, {985001, 10000, 99}, {99, 1, 99}, {995, 10, 99}, {100, 1, 99}, {1000000, 1, 99}, {1, 1000000, 0}};
        for (int[] c : cases) {
            x.setApproximateWeight(0, c[0], c[1]);
            due("roundWeights", x.roundWeights(1), 0);
            due("weight of " + c[0] + "/" + c[1], x.weight(0), c[2]);
        }
        x.setApproximateWeight(0, 1, 3);
        x.setApproximateWeight(1, 1, 10);
        x.setApproximateWeight(2, 1000000, 1);
        // A third as a float is a little more than a third; ten times a tenth as a float, a little more than 1.
        due("roundWeights(100)", x.roundWeights(100), 0);
        dueWeights(33, 10, 99);
        due("roundWeights(15)", x.roundWeights(15), 0);
        dueWeights(5, 2, 99);
        due("it stays", x.approximateWeight(2), 1000000000000L);
    }

    static void roundingFactors() {
        says(38, "`factor`: the factor, 1 to 100");
        x.setApproximateWeight(0, 98, 100);
        rules("a>b", "b>a", "a>a");
        due("1", x.roundWeights(1), 0);
        dueWeights(1, 1, 1);
        due("100", x.roundWeights(100), 1);
        dueWeights(98, 99, 99);
        due("99", x.roundWeights(99), 1);
        dueWeights(97, 99, 99);
        says(38, "Returns the number of rules whose left side has a larger weight than the right side with the new weights;");
        due("without rules", x.roundWeights(1), 0);
        for (int r = 0; r < 8; r++) rules("a>");
        weights(0, 0, 0);
        due("eight", x.roundWeights(1), 8);
        x.setApproximateWeight(0, 1, 2);
        due("with weights of 0", x.roundWeights(1), 0);
        says(38, "BAD_ARGUMENT if the factor is out of range.");
        weights(4, 5, 6);
        dueEach("factor", x::roundWeights, -1, 0, 101, -1, MIN, MAX);
        dueWeights(4, 5, 6);
    }

    static void allocated() {
        says(39, "Stores a new array, filled with 0, in an array slot.");
        for (int type = 0; type < 4; type++) {
            fill(0, type, 7, 8, 9);
            due("allocate", x.allocate(0, type, 4), 4);
            due("elements", array(0), "0 0 0 0");
            due("allocate", x.allocate(0, 3 - type, 2), 2);
            due("elements", array(0), "0 0");
        }
        says(39, "`slot`: the slot, 0 to 3");
        due("0", x.allocate(0, 0, 1), 1);
        due("3", x.allocate(3, 0, 2), 2);
        dueEach("slot", slot -> x.allocate(slot, 0, 1), -1, -1, 4, MIN, MAX);
        due("slot 3", array(3), "0 0");
        says(39, "`type`: the element type: 0 int, 1 long, 2 float, 3 double");
        for (int type = 0; type < 4; type++) {
            fill(type, type, (1L << 54) + 1);
            due("divideElement", x.divideElement(type, 0, 1), type < 2 ? -12 : 1);
        }
        due("int", array(0), "1");
        due("long", array(1), String.valueOf((1L << 54) + 1));
        due("float", array(2), String.valueOf(1L << 54));
        fill(2, 2, 16777217);
        fill(3, 3, 16777217);
        due("float", array(2), "16777216");
        due("double", array(3), "16777217");
        dueEach("type", type -> x.allocate(0, type, 1), -1, -1, 4, MIN, MAX);
    }

    static void refusedSizes() {
        says(39, "BAD_ARGUMENT if the slot or the type is out of range or the size is above 40 (checked first);");
        fill(0, 1, 5, 6);
        dueEach("size", size -> x.allocate(0, 0, size), -1, 41, 100, MAX);
        dueEach("slot, with a size below 0", slot -> x.allocate(slot, 0, -1), -1, -1, 4, MIN, MAX);
        dueEach("type, with a size below 0", type -> x.allocate(0, type, MIN), -1, -1, 4, MIN, MAX);
        due("all", x.allocate(4, 4, 41), -1);
        due("the old array stays", array(0), "5 6");
        due("40", x.allocate(0, 0, 40), 40);
        due("0", x.allocate(0, 0, 0), 0);
        due("an array without elements", x.element(0, 0), Long.MIN_VALUE);
        due("index 0", x.putElement(0, 0, 1), -13);
        due("it is an array", x.release(0), 1);
        says(39, "NEGATIVE_SIZE.");
        fill(0, 1, 5, 6);
        dueEach("size", size -> x.allocate(0, 0, size), -14, -1, -41, MIN);
        due("the old array stays", array(0), "5 6");
        dueEach("size, in an empty slot", size -> x.allocate(3, 3, size), -14, -1, -41, MIN);
        due("it stays empty", x.release(3), 0);
    }

    static void released() {
        says(40, "Empties an array slot.");
        for (int type = 0; type < 4; type++) {
            fill(type, type, 5, 6);
            x.release(type);
            due("element", x.element(type, 0), Long.MIN_VALUE);
            due("putElement", x.putElement(type, 0, 1), -11);
            due("allocate again", x.allocate(type, type, 2), 2);
            due("nothing of the old array", array(type), "0 0");
        }
        says(40, "`slot`: the slot, 0 to 3");
        for (int slot = 0; slot < 4; slot++) fill(slot, 0, slot);
        due("0", x.release(0), 1);
        due("3", x.release(3), 1);
        due("slot 1", array(1), "1");
        due("slot 2", array(2), "2");
        says(40, "Returns 1 if it held an array, 0 if it was empty;");
        due("empty", x.release(1), 0);
        x.allocate(1, 2, 0);
        due("an array without elements", x.release(1), 1);
        due("empty again", x.release(1), 0);
        says(40, "BAD_ARGUMENT if the slot is out of range.");
        fill(0, 0, 5);
        fill(3, 0, 6);
        dueEach("slot", x::release, -1, -1, 4, MIN, MAX);
        due("slot 0", array(0), "5");
        due("slot 3", array(3), "6");
    }

    static void castElements() {
        says(41, "The value is converted to the element type as by a Java cast.");
        long[] values = {0, 1, -1, MAX, MAX + 1L, MIN, MIN - 1L, 1L << 32, (1L << 32) - 1, Long.MAX_VALUE, Long.MIN_VALUE, 16777217, -16777217,
            (1L << 53) + 1, -(1L << 53) - 1, Long.MAX_VALUE - 512, Long.MIN_VALUE + 1025};
        for (int type = 0; type < 4; type++) x.allocate(type, type, 1);
        for (long value : values) {
            for (int type = 0; type < 4; type++) due("putElement", x.putElement(type, 0, value), 1);
            due("int of " + value, x.element(0, 0), (int) value);
            due("long of " + value, x.element(1, 0), value);
            due("float of " + value, x.element(2, 0), (long) (float) value);
            due("double of " + value, x.element(3, 0), (long) (double) value);
        }
    }

    static void refusedElements() {
        says(41, "BAD_ARGUMENT if the slot is out of range (checked first);");
        dueEach("slot", slot -> x.putElement(slot, -1, 0), -1, -1, 4, MIN, MAX);
        says(41, "EMPTY_SLOT (checked second);");
        dueEach("index", index -> x.putElement(3, index, 0), -11, -1, 0, 40, MIN, MAX);
        fill(3, 0, 1);
        x.release(3);
        dueEach("index", index -> x.putElement(3, index, 0), -11, -1, 0, 40, MIN, MAX);
        says(41, "INDEX_OUT_OF_RANGE.");
        for (int type = 0; type < 4; type++) {
            int slot = type;
            fill(slot, type, 5, 6);
            dueEach("index", index -> x.putElement(slot, index, 9), -13, -1, 2, 39, 40, MIN, MAX);
            due("the elements stay", array(slot), "5 6");
            due("the last index", x.putElement(slot, 1, 9), 1);
            due("elements", array(slot), "5 9");
            x.allocate(slot, type, 0);
            dueEach("no elements", index -> x.putElement(slot, index, 9), -13, -1, 0, MIN, MAX);
            x.allocate(slot, type, 40);
            due("index 39 of 40", x.putElement(slot, 39, 9), 1);
            due("index 40 of 40", x.putElement(slot, 40, 9), -13);
        }
    }

    static void divisors() {
        says(42, "The divisor is converted to the element type and may be 0.");
        for (int type = 2; type < 4; type++) {
            fill(type, type, 7, -7, 0, Long.MAX_VALUE);
            for (int i = 0; i < 4; i++) due("by 0", x.divideElement(type, i, 0), 1);
            due("bounds, and NaN as 0", elements(type, 4), "9223372036854775807 -9223372036854775808 0 9223372036854775807 ");
            for (int i = 0; i < 4; i++) due("by -1", x.divideElement(type, i, -1), 1);
            due("the other bounds", elements(type, 4), "-9223372036854775808 9223372036854775807 0 -9223372036854775808 ");
            for (int i = 0; i < 4; i++) due("by MAX", x.divideElement(type, i, MAX), 1);
            due("beyond all numbers still", elements(type, 4), "-9223372036854775808 9223372036854775807 0 -9223372036854775808 ");
            fill(type, type, 1L << 40, 1L << 40, 1L << 31, 9);
            due("by MIN", x.divideElement(type, 0, MIN), 1);
            due("by MAX", x.divideElement(type, 1, MAX), 1);
            due("by MIN", x.divideElement(type, 2, MIN), 1);
            due("by 1", x.divideElement(type, 3, 1), 1);
            // MAX as a float is 2 to the 31; as a double it is not.
            due("elements", array(type), "-512 512 -1 9");
        }
        fill(2, 2, MAX);
        fill(3, 3, (1L << 31) - 2);
        due("float", x.divideElement(2, 0, MAX - 1), 1);
        due("MAX and MAX - 1 are one float", x.element(2, 0), 1);
        due("double", x.divideElement(3, 0, MAX), 1);
        due("MAX - 1 by MAX is less than 1", x.element(3, 0), 0);
        fill(2, 2, 1L << 31);
        due("float", x.divideElement(2, 0, MAX), 1);
        due("exactly 1", x.element(2, 0), 1);
    }

    /** So many elements of an array, the least long too, which array(slot) takes for the end. */
    private static String elements(int slot, int size) {
        StringBuilder all = new StringBuilder();
        for (int i = 0; i < size; i++) all.append(x.element(slot, i)).append(' ');
        return all.toString();
    }

    static void refusedDivisions() {
        says(42, "BAD_ARGUMENT if the slot is out of range (checked first);");
        dueEach("slot", slot -> x.divideElement(slot, -1, 0), -1, -1, 4, MIN, MAX);
        says(42, "EMPTY_SLOT (checked second);");
        dueEach("index", index -> x.divideElement(0, index, 0), -11, -1, 0, 40, MIN, MAX);
        says(42, "WRONG_TYPE if the array holds ints or longs (checked third);");
        for (int type = 0; type < 2; type++) {
            int slot = type;
            fill(slot, type, 8, 9);
            dueEach("index", index -> x.divideElement(slot, index, 2), -12, -1, 0, 1, 2, MIN, MAX);
            due("by 0", x.divideElement(slot, 0, 0), -12);
            due("the elements stay", array(slot), "8 9");
            x.allocate(slot, type, 0);
            due("no elements", x.divideElement(slot, 0, 2), -12);
        }
        says(42, "INDEX_OUT_OF_RANGE.");
        for (int type = 2; type < 4; type++) {
            int slot = type;
            fill(slot, type, 8, 9);
            dueEach("index", index -> x.divideElement(slot, index, 2), -13, -1, 2, 39, 40, MIN, MAX);
            due("the elements stay", array(slot), "8 9");
            due("the last index", x.divideElement(slot, 1, 3), 1);
            due("elements", array(slot), "8 3");
            x.allocate(slot, type, 0);
            due("no elements", x.divideElement(slot, 0, 0), -13);
        }
    }

    static void readElements() {
        says(43, "Returns an array element cast to long as by Java: the fractional part is dropped, NaN gives 0, and values beyond the"
            + " range of long give its bounds.");
        for (int type = 2; type < 4; type++) {
            fill(type, type, 1, -1, 199, -199, 0, 1, -1);
            for (int i = 0; i < 4; i++) x.divideElement(type, i, i < 2 ? 2 : 100);
            for (int i = 4; i < 7; i++) x.divideElement(type, i, 0);
            due("0.5", x.element(type, 0), 0);
            due("-0.5", x.element(type, 1), 0);
            due("1.99", x.element(type, 2), 1);
            due("-1.99", x.element(type, 3), -1);
            due("NaN", x.element(type, 4), 0);
            due("above all", x.element(type, 5), Long.MAX_VALUE);
            due("below all", x.element(type, 6), Long.MIN_VALUE);
            fill(type, type, Long.MAX_VALUE, Long.MIN_VALUE, Long.MAX_VALUE);
            due("2 to the 63", x.element(type, 0), Long.MAX_VALUE);
            due("the least long", x.element(type, 1), Long.MIN_VALUE);
            x.divideElement(type, 2, -1);
            due("-2 to the 63", x.element(type, 2), Long.MIN_VALUE);
            x.divideElement(type, 1, -2);
            due("2 to the 62", x.element(type, 1), 1L << 62);
        }
        says(43, "NO_VALUE if the slot is out of range or empty, or the index is out of range.");
        for (int slot : new int[] {-1, 4, MIN, MAX, 0, 3}) due("slot " + slot, x.element(slot, 0), Long.MIN_VALUE);
        for (int type = 0; type < 4; type++) {
            fill(type, type, 5, 6);
            for (int index : new int[] {-1, 2, 39, 40, MIN, MAX}) due("index " + index, x.element(type, index), Long.MIN_VALUE);
            due("the last index", x.element(type, 1), 6);
            x.allocate(type, type, 0);
            due("no elements", x.element(type, 0), Long.MIN_VALUE);
        }
    }

    static void copied() {
        says(44, "Copies elements from one array to another one, or within one array, as System.arraycopy does.");
        for (int type = 0; type < 4; type++) {
            fill(0, type, 1, 2, 3, 4, 5);
            due("upwards, overlapping", x.copyElements(0, 0, 0, 1, 4), 4);
            due("elements", array(0), "1 1 2 3 4");
            due("downwards, overlapping", x.copyElements(0, 1, 0, 0, 4), 4);
            due("elements", array(0), "1 2 3 4 4");
            due("onto itself", x.copyElements(0, 0, 0, 0, 5), 5);
            due("elements", array(0), "1 2 3 4 4");
            fill(1, type, 9, 9, 9);
            due("to the end of the other", x.copyElements(0, 2, 1, 2, 1), 1);
            due("elements", array(1), "9 9 3");
            due("the source stays", array(0), "1 2 3 4 4");
        }
        says(44, "BAD_ARGUMENT if a slot is out of range (checked first);");
        dueEach("source, the target empty", source -> x.copyElements(source, -1, 0, -1, -1), -1, -1, 4, MIN, MAX);
        dueEach("target, the source empty", target -> x.copyElements(0, -1, target, -1, -1), -1, -1, 4, MIN, MAX);
        due("both", x.copyElements(-1, 0, 4, 0, 0), -1);
        says(44, "EMPTY_SLOT if either slot is empty (checked second);");
        fill(0, 0, 1);
        due("source", x.copyElements(1, -1, 0, 0, 1), -11);
        due("target", x.copyElements(0, 0, 1, -1, 1), -11);
        due("both", x.copyElements(1, 0, 2, 0, -1), -11);
        due("the same one", x.copyElements(1, 0, 1, 0, 0), -11);
        says(44, "WRONG_TYPE if the element types differ (checked third);");
        for (int type = 0; type < 4; type++) fill(type, type, 5);
        for (int source = 0; source < 4; source++) {
            for (int target = 0; target < 4; target++) {
                due("one element", x.copyElements(source, 0, target, 0, 1), source == target ? 1 : -12);
                due("nothing", x.copyElements(source, 0, target, 0, 0), source == target ? 0 : -12);
                due("a wrong index", x.copyElements(source, -1, target, 0, 1), source == target ? -13 : -12);
            }
        }
    }

    static void copiedBeyond() {
        says(44, "INDEX_OUT_OF_RANGE if an index or the count is negative, or an end is beyond the size of either array.");
        fill(0, 0, 1, 2, 3);
        fill(1, 0, 7, 8);
        dueEach("source index", index -> x.copyElements(0, index, 1, 0, 1), -13, -1, 3, 4, MIN, MAX);
        dueEach("target index", index -> x.copyElements(0, 0, 1, index, 1), -13, -1, 2, 3, MIN, MAX);
        dueEach("count", count -> x.copyElements(0, 0, 1, 0, count), -13, -1, 3, MIN, MAX);
        dueEach("count, to the larger", count -> x.copyElements(1, 0, 0, 0, count), -13, -1, 3, MIN, MAX);
        dueEach("count, from an index on", count -> x.copyElements(0, 1, 1, 1, count), -13, -1, 2, MIN, MAX, MAX - 1);
        dueEach("nothing, source index", index -> x.copyElements(0, index, 1, 0, 0), -13, -1, 4, MIN, MAX);
        dueEach("nothing, target index", index -> x.copyElements(0, 0, 1, index, 0), -13, -1, 3, MIN, MAX);
        due("all at once", x.copyElements(0, MAX, 1, MAX, MAX), -13);
        due("all at once", x.copyElements(0, MIN, 1, MIN, MIN), -13);
        due("sums that wrap around", x.copyElements(0, MAX, 1, 0, 1), -13);
        due("the source stays", array(0), "1 2 3");
        due("the target stays", array(1), "7 8");
        due("nothing, at both ends", x.copyElements(0, 3, 1, 2, 0), 0);
        due("up to both ends", x.copyElements(0, 1, 1, 0, 2), 2);
        due("elements", array(1), "2 3");
        x.allocate(2, 0, 0);
        due("nothing to nothing", x.copyElements(2, 0, 2, 0, 0), 0);
        due("one from nothing", x.copyElements(2, 0, 0, 0, 1), -13);
        x.allocate(2, 0, 40);
        x.allocate(3, 0, 40);
        due("forty", x.copyElements(2, 0, 3, 0, 40), 40);
        due("forty-one", x.copyElements(2, 0, 3, 0, 41), -13);
    }

    static void checkedCertificates() {
        says(45, "Checks whether an array of ints is a certificate as described for findCertificate, but with any integers of at least"
            + " 0.");
        fresh(2);
        rules("aaaa>bbbb", "b>a");
        fill(0, 0, 1, 4);
        due("4, as findCertificate has none", x.checkCertificate(0), 1);
        due("findCertificate", x.findCertificate(), -6);
        fill(0, 0, 1, 3);
        due("too few", x.checkCertificate(0), 0);
        fill(0, 0, 1, 5);
        due("too many", x.checkCertificate(0), 0);
        fill(0, 0, 500000000, 2000000000);
        due("large ones", x.checkCertificate(0), 1);
        fill(0, 0, 0, 0);
        due("zeros", x.checkCertificate(0), 0);
        fill(0, 0, -1, -4);
        due("below 0", x.checkCertificate(0), 0);
        // Sums that would wrap around in an int: 6 times MAX is above 0, and below 0 as an int.
        fresh(1);
        rules("aaaaaa>");
        fill(0, 0, MAX);
        due("6 times MAX", x.checkCertificate(0), 0);
        fresh(1);
        rules("a>aaa");
        fill(0, 0, 1 << 30);
        due("-2 times 2 to the 30", x.checkCertificate(0), 1);
        fresh(1);
        for (int r = 0; r < 8; r++) rules("a>aaaaaa");
        fill(0, 0, MAX, MAX, MAX, MAX, MAX, MAX, MAX, MAX);
        due("-40 times MAX", x.checkCertificate(0), 1);
        fresh(1);
        for (int r = 0; r < 8; r++) rules("aaaaaa>");
        fill(0, 0, MAX, MAX, MAX, MAX, MAX, MAX, MAX, MAX);
        due("48 times MAX", x.checkCertificate(0), 0);
        fresh(1);
        rules("aaaaaa>aa", "a>aa");
        fill(0, 0, 1 << 30, 0);
        due("4 times 2 to the 30, which is 0 as an int", x.checkCertificate(0), 0);
        says(45, "further elements are ignored.");
        rules("a>a");
        fill(0, 0, 1, -1, MIN, MAX);
        due("after one rule", x.checkCertificate(0), 1);
        fill(0, 0, 0, 1);
        due("not all 0 only further on", x.checkCertificate(0), 0);
        x.allocate(0, 0, 40);
        x.putElement(0, 0, 1);
        x.putElement(0, 39, -1);
        due("forty elements", x.checkCertificate(0), 1);
        says(45, "Returns 1 or 0;");
        x.allocate(0, 0, 0);
        due("without rules, no elements", x.checkCertificate(0), 0);
        fill(0, 0, 1);
        due("without rules, one element", x.checkCertificate(0), 0);
        rules("a>a");
        due("with a rule", x.checkCertificate(0), 1);
    }

    static void refusedCertificates() {
        says(45, "BAD_ARGUMENT if the slot is out of range (checked first);");
        rules("a>a");
        dueEach("slot", x::checkCertificate, -1, -1, 4, MIN, MAX);
        says(45, "EMPTY_SLOT (checked second);");
        dueEach("without rules", x::checkCertificate, -11, 0, 1, 2, 3);
        rules("a>a");
        dueEach("with a rule", x::checkCertificate, -11, 0, 1, 2, 3);
        says(45, "WRONG_TYPE if the array does not hold ints (checked third);");
        rules("a>a", "b>b");
        for (int type = 1; type < 4; type++) {
            fill(type, type, 1, 1);
            due("long enough", x.checkCertificate(type), -12);
            x.allocate(type, type, 0);
            due("too short", x.checkCertificate(type), -12);
        }
        says(45, "INDEX_OUT_OF_RANGE if it has fewer elements than there are rules.");
        for (int rules = 1; rules <= 8; rules++) {
            rules("a>a");
            x.allocate(0, 0, rules - 1);
            due("one fewer than " + rules, x.checkCertificate(0), -13);
            x.allocate(0, 0, rules);
            due("as many, all 0", x.checkCertificate(0), 0);
            x.putElement(0, rules - 1, 1);
            due("as many", x.checkCertificate(0), 1);
        }
    }

    static void snapshots() {
        says(46, "It replaces an earlier snapshot.");
        rules("a>b");
        string("abc");
        weights(2, 3, 4);
        due("snapshot", x.snapshot(), 1);
        x.reset(6);
        eightRules();
        string("ffffffffffff");
        due("snapshot", x.snapshot(), 8);
        x.reset(1);
        due("restore", x.restore(), 8);
        due("letters", x.letters(), 6);
        dueWeights(1, 1, 1, 1, 1, 1);
        dueString("ffffffffffff");
        due("a ninth rule", rule("a>b"), -4);
        says(46, "Returns the number of rules.");
        due("none", x.snapshot(), 0);
        eightRules();
        due("eight", x.snapshot(), 8);
        x.reset(3);
        storeLoop();
        due("the loop stays", x.snapshot(), 1);
        dueLoop(true);
    }

    static void restored() {
        says(47, "A stored loop is discarded.");
        rules("b>c");
        x.snapshot();
        storeLoop();
        due("restore", x.restore(), 1);
        dueLoop(false);
        storeLoop();
        x.snapshot();
        dueLoop(true);
        due("a loop that was there at the snapshot", x.restore(), 2);
        dueLoop(false);
        says(47, "The snapshot stays available.");
        fresh(4);
        rules("a>b", "b>dd");
        string("dcba");
        weights(1, 2, 3, 4);
        levels(4, 3, 2, 1);
        x.setStatus(1);
        x.setApproximateWeight(3, 1, 4);
        x.snapshot();
        for (int time = 0; time < 3; time++) {
            due("restore", x.restore(), 2);
            due("letters", x.letters(), 4);
            due("rule 1", x.ruleLetter(1, 1, 1), 3);
            due("balance", x.balance(1, 3), 98);
            dueString("dcba");
            dueWeights(1, 2, 3, 4);
            dueLevels(4, 3, 2, 1);
            due("status", x.setStatus(0), 1);
            due("approximateWeight", x.approximateWeight(3), 250000);
            // What happens after a restore must not reach into the snapshot.
            x.removeRule(0);
            rules("c>a");
            string("a");
            weights(9, 9, 9, 9);
            levels(9, 9, 9, 9);
            x.setApproximateWeight(3, 7, 1);
            if (time == 1) x.reset(2);
        }
    }

    static void nothingToRestore() {
        says(47, "NONE if there is no snapshot.");
        due("a new object", x.restore(), -6);
        storeLoop();
        string("ab");
        weights(5, 6, 7);
        due("restore", x.restore(), -6);
        due("ruleCount", x.ruleCount(), 1);
        dueLoop(true);
        dueString("ab");
        dueWeights(5, 6, 7);
        x.reset(2);
        due("after a reset", x.restore(), -6);
        due("letters", x.letters(), 2);
        says(47, "Returns the number of rules;");
        x.snapshot();
        eightRules();
        due("none", x.restore(), 0);
        due("ruleCount", x.ruleCount(), 0);
        eightRules();
        x.snapshot();
        x.reset(3);
        due("eight", x.restore(), 8);
        due("ruleCount", x.ruleCount(), 8);
    }
}
