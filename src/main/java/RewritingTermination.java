import java.util.Arrays;

/** A termination analyser for string rewriting systems, as ../shared/DOC.md describes it. */
public final class RewritingTermination {
    public static final int BAD_ARGUMENT = -1;
    public static final int NO_SUCH_LETTER = -2;
    public static final int NO_SUCH_RULE = -3;
    public static final int FULL = -4;
    public static final int BAD_INPUT = -5;
    public static final int NONE = -6;
    public static final int LIMIT_EXCEEDED = -7;
    public static final int ALPHABET_TOO_LARGE = -8;
    public static final int NOT_APPLICABLE = -9;
    public static final int EMPTY_SLOT = -11;
    public static final int WRONG_TYPE = -12;
    public static final int INDEX_OUT_OF_RANGE = -13;
    public static final int NEGATIVE_SIZE = -14;
    public static final long NO_VALUE = Long.MIN_VALUE;

    private static final int FIRST_LETTERS = 3;
    private static final int MOST_LETTERS = 6;
    private static final int MOST_RULES = 8;
    private static final int MOST_IN_SIDE = 6;
    private static final int MOST_IN_STRING = 12;
    private static final int MOST_BYTES = 40;
    private static final int MOST_BYTE = 127;
    private static final int MOST_WEIGHT = 99;
    private static final int MOST_LEVEL = 9;
    private static final int MOST_FOUND = 200;
    private static final int MOST_STEPS = 1000;
    private static final int MOST_ROUNDS = 100;
    private static final int MOST_FACTOR = 100;
    private static final int MOST_QUOTIENT_PART = 1000000;
    private static final int MOST_WEIGHT_LIMIT = 6;
    private static final int MOST_IN_CERTIFICATE = 3;
    private static final int MOST_ORDER_LETTERS = 4;
    private static final int ORDER_WEIGHTS = 3;
    private static final int SLOTS = 4;
    private static final int MOST_ELEMENTS = 40;

    private static final int LESS = 0;
    private static final int EQUIVALENT = 1;
    private static final int GREATER = 2;

    /** A letter is read from three bits, so rows by letter have eight places: no such index is outside. */
    private static final int LETTER_ROOM = 8;
    private static final int LETTER_BITS = 3;
    private static final int SIZE_SHIFT = MOST_IN_STRING * LETTER_BITS;
    private static final long NO_WORD = -1L;

    private final Rewriting now = new Rewriting();
    private final Rewriting saved = new Rewriting();
    private boolean hasSnapshot = false;
    private final Input input = new Input();
    private final Loop loop = new Loop();
    private final Found found = new Found();
    private final LinearSearch linearSearch = new LinearSearch();
    private final LevelSearch levelSearch = new LevelSearch();
    private final int[] triedWeights = new int[LETTER_ROOM];
    private final Slot[] slots = new Slot[SLOTS];

    public RewritingTermination() {
        for (int slot = 0; slot < SLOTS; slot++) {
            slots[slot] = new Slot();
        }
    }

    public int reset(int letters) {
        if (letters < 1 || letters > MOST_LETTERS) {
            return BAD_ARGUMENT;
        }
        int previous = now.letterCount;
        now.begin(letters);
        loop.steps = 0;
        return previous;
    }

    public int letters() {
        return now.letterCount;
    }

    public int append(int value, int count) {
        if (value < 0 || value > MOST_BYTE || count < 1 || count > MOST_BYTES) {
            return BAD_ARGUMENT;
        }
        return input.put(value, count) ? input.count : FULL;
    }

    public int clearInput() {
        return input.consume();
    }

    public int addRule() {
        int count = input.consume();
        if (now.rules >= MOST_RULES) {
            return FULL;
        }
        int arrow = input.find('>', count);
        if (arrow < 1) {
            return BAD_INPUT;
        }
        long left = input.read(0, arrow, MOST_IN_SIDE, now.letterCount);
        long right = input.read(arrow + 1, count, MOST_IN_SIDE, now.letterCount);
        if (left == NO_WORD || right == NO_WORD) {
            return BAD_INPUT;
        }
        return now.putRule(left, right);
    }

    public int removeRule(int rule) {
        if (!now.hasRule(rule)) {
            return NO_SUCH_RULE;
        }
        now.dropRule(rule);
        loop.steps = 0;
        return now.rules;
    }

    public int ruleCount() {
        return now.rules;
    }

    public int ruleLetter(int rule, int side, int position) {
        if (!now.hasRule(rule)) {
            return NO_SUCH_RULE;
        }
        if (side < 0 || side > 1) {
            return BAD_ARGUMENT;
        }
        return letterOrNone(side == 0 ? now.left[rule] : now.right[rule], position);
    }

    public int balance(int rule, int letter) {
        if (!now.hasRule(rule)) {
            return NO_SUCH_RULE;
        }
        return now.hasLetter(letter) ? now.balances[rule][letter] + 100 : NO_SUCH_LETTER;
    }

    public int setWeight(int letter, int weight) {
        if (!now.hasLetter(letter)) {
            return NO_SUCH_LETTER;
        }
        if (weight < 0 || weight > MOST_WEIGHT) {
            return BAD_ARGUMENT;
        }
        int previous = now.weights[letter];
        now.weights[letter] = weight;
        return previous;
    }

    public int weight(int letter) {
        return now.hasLetter(letter) ? now.weights[letter] : NO_SUCH_LETTER;
    }

    public int setLevel(int letter, int level) {
        if (!now.hasLetter(letter)) {
            return NO_SUCH_LETTER;
        }
        if (level < 0 || level > MOST_LEVEL) {
            return BAD_ARGUMENT;
        }
        int previous = now.levels[letter];
        now.levels[letter] = level;
        return previous;
    }

    public int level(int letter) {
        return now.hasLetter(letter) ? now.levels[letter] : NO_SUCH_LETTER;
    }

    public int setStatus(int status) {
        if (status < 0 || status > 1) {
            return BAD_ARGUMENT;
        }
        int previous = now.status;
        now.status = status;
        return previous;
    }

    public int isAdmissible() {
        return now.admissible() ? 1 : 0;
    }

    public int compareSides(int rule) {
        return now.hasRule(rule) ? now.compareWords(now.left[rule], now.right[rule]) : NO_SUCH_RULE;
    }

    public int compareWithInput() {
        long word = takeString();
        return word == NO_WORD ? BAD_INPUT : now.compareWords(now.string, word);
    }

    public int firstUnoriented() {
        for (int rule = 0; rule < now.rules; rule++) {
            if (now.compareWords(now.left[rule], now.right[rule]) != GREATER) {
                return rule;
            }
        }
        return NONE;
    }

    public int findWeights(int limit) {
        if (limit < 1 || limit > MOST_WEIGHT_LIMIT) {
            return BAD_ARGUMENT;
        }
        linearSearch.prepareWeights(now, limit);
        if (!linearSearch.findFirst(now.letterCount, limit)) {
            return NONE;
        }
        int sum = 0;
        for (int letter = 0; letter < now.letterCount; letter++) {
            now.weights[letter] = linearSearch.digits[letter];
            sum += linearSearch.digits[letter];
        }
        return sum;
    }

    public int findCertificate() {
        linearSearch.prepareCertificate(now, MOST_IN_CERTIFICATE);
        if (!linearSearch.findFirst(now.rules, MOST_IN_CERTIFICATE)) {
            return NONE;
        }
        int certificate = 0;
        for (int rule = 0; rule < now.rules; rule++) {
            certificate = 4 * certificate + linearSearch.digits[rule];
        }
        return certificate;
    }

    public int findLevels() {
        if (!levelSearch.prepare(now, now.weights) || !levelSearch.findFor(now.status)) {
            return NONE;
        }
        takeFoundLevels();
        int sum = 0;
        for (int letter = now.letterCount - 1; letter >= 0; letter--) {
            sum = 10 * sum + now.levels[letter];
        }
        return sum;
    }

    public int findOrder() {
        if (now.letterCount > MOST_ORDER_LETTERS) {
            return ALPHABET_TOO_LARGE;
        }
        int sequences = 1;
        for (int letter = 0; letter < now.letterCount; letter++) {
            sequences *= ORDER_WEIGHTS;
        }
        for (int sequence = 0; sequence < sequences; sequence++) {
            writeTriedWeights(sequence);
            boolean hopeful = levelSearch.prepare(now, triedWeights);
            for (int status = 0; status <= 1 && hopeful; status++) {
                if (levelSearch.findFor(status)) {
                    takeFoundOrder(status);
                    return 1;
                }
            }
        }
        return NONE;
    }

    public int reachableLetters(int letter) {
        if (!now.hasLetter(letter)) {
            return NO_SUCH_LETTER;
        }
        int reached = 0;
        // Each round but the last adds a letter, so there is nothing left to add after one round a letter.
        for (int round = 0; round <= MOST_LETTERS; round++) {
            for (int rule = 0; rule < now.rules; rule++) {
                if ((Word.lettersIn(now.left[rule]) & (reached | 1 << letter)) != 0) {
                    reached |= Word.lettersIn(now.right[rule]);
                }
            }
        }
        return reached;
    }

    public int setString() {
        long word = takeString();
        if (word == NO_WORD) {
            return BAD_INPUT;
        }
        now.string = word;
        return Word.sizeOf(word);
    }

    public int stringLength() {
        return Word.sizeOf(now.string);
    }

    public int stringLetter(int position) {
        return letterOrNone(now.string, position);
    }

    public int stringWeight() {
        return now.weightOf(now.string);
    }

    public int rewrite(int rule, int position) {
        if (!now.hasRule(rule)) {
            return NO_SUCH_RULE;
        }
        long next = now.stepped(now.string, rule, position);
        if (next == NO_WORD) {
            return NOT_APPLICABLE;
        }
        now.string = next;
        return Word.sizeOf(next);
    }

    public int normalize(int steps) {
        if (steps < 0 || steps > MOST_STEPS) {
            return BAD_ARGUMENT;
        }
        for (int made = 0; made < steps; made++) {
            long next = now.firstStep(now.string);
            if (next == NO_WORD) {
                return made;
            }
            now.string = next;
        }
        return steps;
    }

    public int longestDerivation() {
        return found.collectAll(now) ? found.longestFromFirst(now) : LIMIT_EXCEEDED;
    }

    public int findLoop(int rule) {
        return now.hasRule(rule) ? found.searchLoop(now, now.left[rule], loop) : NO_SUCH_RULE;
    }

    public int loopStep(int step, int what) {
        if (what < 0 || what > 1) {
            return BAD_ARGUMENT;
        }
        if (step < 0 || step >= loop.steps) {
            return NONE;
        }
        return what == 0 ? loop.rules[step] : loop.positions[step];
    }

    public int improve(int rounds) {
        if (rounds < 1 || rounds > MOST_ROUNDS) {
            return BAD_ARGUMENT;
        }
        for (int round = 0; round < rounds; round++) {
            for (int rule = 0; rule < now.rules; rule++) {
                if (now.marginOf(rule) < 0.5f) {
                    now.widenMargin(rule);
                }
            }
        }
        int wide = 0;
        for (int rule = 0; rule < now.rules; rule++) {
            if (now.marginOf(rule) >= 0.5f) {
                wide++;
            }
        }
        return wide;
    }

    public int setApproximateWeight(int letter, int numerator, int denominator) {
        if (!now.hasLetter(letter)) {
            return NO_SUCH_LETTER;
        }
        if (numerator < 0 || numerator > MOST_QUOTIENT_PART || denominator < 1 || denominator > MOST_QUOTIENT_PART) {
            return BAD_ARGUMENT;
        }
        float previous = now.approximate[letter];
        now.approximate[letter] = (float) numerator / (float) denominator;
        return now.approximate[letter] != previous ? 1 : 0;
    }

    public long approximateWeight(int letter) {
        return now.hasLetter(letter) ? millionths(now.approximate[letter]) : NO_VALUE;
    }

    public long margin(int rule) {
        return now.hasRule(rule) ? millionths(now.marginOf(rule)) : NO_VALUE;
    }

    public int roundWeights(int factor) {
        if (factor < 1 || factor > MOST_FACTOR) {
            return BAD_ARGUMENT;
        }
        for (int letter = 0; letter < now.letterCount; letter++) {
            now.weights[letter] = roundedWeight((double) now.approximate[letter] * (double) factor);
        }
        int decreasing = 0;
        for (int rule = 0; rule < now.rules; rule++) {
            if (now.weightOf(now.left[rule]) > now.weightOf(now.right[rule])) {
                decreasing++;
            }
        }
        return decreasing;
    }

    public int allocate(int slot, int type, int size) {
        if (!isSlot(slot) || type < 0 || type > Slot.DOUBLES || size > MOST_ELEMENTS) {
            return BAD_ARGUMENT;
        }
        if (size < 0) {
            return NEGATIVE_SIZE;
        }
        slots[slot].fill(type, size);
        return size;
    }

    public int release(int slot) {
        if (!isSlot(slot)) {
            return BAD_ARGUMENT;
        }
        boolean held = !slots[slot].isFree();
        slots[slot].fill(Slot.FREE, 0);
        return held ? 1 : 0;
    }

    public int putElement(int slot, int index, long value) {
        if (!isSlot(slot)) {
            return BAD_ARGUMENT;
        }
        if (slots[slot].isFree()) {
            return EMPTY_SLOT;
        }
        if (!slots[slot].hasIndex(index)) {
            return INDEX_OUT_OF_RANGE;
        }
        slots[slot].put(index, value);
        return 1;
    }

    public int divideElement(int slot, int index, int divisor) {
        if (!isSlot(slot)) {
            return BAD_ARGUMENT;
        }
        if (slots[slot].isFree()) {
            return EMPTY_SLOT;
        }
        if (slots[slot].type < Slot.FLOATS) {
            return WRONG_TYPE;
        }
        if (!slots[slot].hasIndex(index)) {
            return INDEX_OUT_OF_RANGE;
        }
        slots[slot].divide(index, divisor);
        return 1;
    }

    public long element(int slot, int index) {
        return isSlot(slot) && slots[slot].hasIndex(index) ? slots[slot].asLong(index) : NO_VALUE;
    }

    public int copyElements(int source, int sourceIndex, int target, int targetIndex, int count) {
        if (!isSlot(source) || !isSlot(target)) {
            return BAD_ARGUMENT;
        }
        if (slots[source].isFree() || slots[target].isFree()) {
            return EMPTY_SLOT;
        }
        if (slots[source].type != slots[target].type) {
            return WRONG_TYPE;
        }
        if (!slots[source].hasRange(sourceIndex, count) || !slots[target].hasRange(targetIndex, count)) {
            return INDEX_OUT_OF_RANGE;
        }
        slots[target].copyFrom(slots[source], sourceIndex, targetIndex, count);
        return count;
    }

    public int checkCertificate(int slot) {
        if (!isSlot(slot)) {
            return BAD_ARGUMENT;
        }
        if (slots[slot].isFree()) {
            return EMPTY_SLOT;
        }
        if (slots[slot].type != Slot.INTS) {
            return WRONG_TYPE;
        }
        if (slots[slot].size < now.rules) {
            return INDEX_OUT_OF_RANGE;
        }
        return isCertificate(slots[slot].wholes) ? 1 : 0;
    }

    public int snapshot() {
        saved.copyFrom(now);
        hasSnapshot = true;
        return now.rules;
    }

    public int restore() {
        if (!hasSnapshot) {
            return NONE;
        }
        now.copyFrom(saved);
        loop.steps = 0;
        return now.rules;
    }

    private static int letterOrNone(long word, int position) {
        return position >= 0 && position < Word.sizeOf(word) ? Word.letterAt(word, position) : NONE;
    }

    private long takeString() {
        int count = input.consume();
        return input.read(0, count, MOST_IN_STRING, now.letterCount);
    }

    private void takeFoundLevels() {
        System.arraycopy(levelSearch.digits, 0, now.levels, 0, now.letterCount);
    }

    /** The first letter's weight is the highest digit, so that counting up goes in lexicographic order. */
    private void writeTriedWeights(int sequence) {
        int rest = sequence;
        for (int letter = now.letterCount - 1; letter >= 0; letter--) {
            triedWeights[letter] = rest % ORDER_WEIGHTS;
            rest /= ORDER_WEIGHTS;
        }
    }

    private void takeFoundOrder(int status) {
        System.arraycopy(triedWeights, 0, now.weights, 0, now.letterCount);
        now.status = status;
        takeFoundLevels();
    }

    private static long millionths(float value) {
        return (long) ((double) value * 1000000.0);
    }

    /** Rounds half to even as Math.rint does; the value is never negative. */
    private static int roundedWeight(double value) {
        if (value >= (double) MOST_WEIGHT) {
            return MOST_WEIGHT;
        }
        int whole = (int) value;
        double rest = value - (double) whole;
        boolean up = rest > 0.5 || rest == 0.5 && whole % 2 == 1;
        return up ? whole + 1 : whole;
    }

    private static boolean isSlot(int slot) {
        return slot >= 0 && slot < SLOTS;
    }

    private boolean isCertificate(long[] factors) {
        boolean allZero = true;
        for (int rule = 0; rule < now.rules; rule++) {
            if (factors[rule] < 0) {
                return false;
            }
            allZero = allZero && factors[rule] == 0;
        }
        for (int letter = 0; letter < now.letterCount; letter++) {
            // Eight ints times balances of at most six leave a long far from its bounds.
            long sum = 0;
            for (int rule = 0; rule < now.rules; rule++) {
                sum += factors[rule] * now.balances[rule][letter];
            }
            if (sum > 0) {
                return false;
            }
        }
        return !allZero;
    }

    /** Strings packed into longs, so that deriving one makes no object: the length on top, the last letter lowest. */
    private static final class Word {
        static int sizeOf(long word) {
            return (int) (word >>> SIZE_SHIFT) & 15;
        }

        static int letterAt(long word, int position) {
            return (int) (word >>> LETTER_BITS * (sizeOf(word) - 1 - position)) & 7;
        }

        /** The letter at a distance from the end at which the status starts. */
        static int letterFrom(long word, int distance, int status) {
            int lower = status == 0 ? sizeOf(word) - 1 - distance : distance;
            return (int) (word >>> LETTER_BITS * lower) & 7;
        }

        static long make(int size, long letters) {
            return (long) size << SIZE_SHIFT | letters;
        }

        static long lettersOf(long word) {
            return lowest(word, MOST_IN_STRING);
        }

        static long lowest(long letters, int count) {
            return letters & (1L << LETTER_BITS * count) - 1L;
        }

        static long extended(long word, int letter) {
            return make(sizeOf(word) + 1, lettersOf(word) << LETTER_BITS | (long) letter);
        }

        static int lettersIn(long word) {
            int set = 0;
            for (int position = 0; position < sizeOf(word); position++) {
                set |= 1 << letterAt(word, position);
            }
            return set;
        }

        static boolean occursAt(long part, long word, int position) {
            int after = sizeOf(word) - sizeOf(part) - position;
            if (position < 0 || position > MOST_IN_STRING || after < 0) {
                return false;
            }
            return lowest(lettersOf(word) >>> LETTER_BITS * after, sizeOf(part)) == lettersOf(part);
        }

        static boolean occurs(long part, long word) {
            for (int position = 0; position < MOST_IN_STRING; position++) {
                if (occursAt(part, word, position)) {
                    return true;
                }
            }
            return false;
        }

        /** Puts another part where a part occurs; no word if that gets too long. */
        static long replaced(long word, int position, long part, long other) {
            int after = sizeOf(word) - sizeOf(part) - position;
            int size = position + sizeOf(other) + after;
            if (size > MOST_IN_STRING) {
                return NO_WORD;
            }
            long letters = lettersOf(word);
            long head = letters >>> LETTER_BITS * (sizeOf(word) - position);
            long headAndOther = head << LETTER_BITS * sizeOf(other) | lettersOf(other);
            return make(size, headAndOther << LETTER_BITS * after | lowest(letters, after));
        }
    }

    /** All that a snapshot holds: the alphabet, the rules, the order, the approximate weights, the current string. */
    private static final class Rewriting {
        int letterCount;
        int rules;
        final long[] left = new long[MOST_RULES];
        final long[] right = new long[MOST_RULES];
        final int[][] balances = new int[MOST_RULES][LETTER_ROOM];
        final int[] weights = new int[LETTER_ROOM];
        final int[] levels = new int[LETTER_ROOM];
        int status;
        final float[] approximate = new float[LETTER_ROOM];
        long string;

        Rewriting() {
            begin(FIRST_LETTERS);
        }

        void begin(int count) {
            letterCount = count;
            rules = 0;
            status = 0;
            string = 0L;
            for (int letter = 0; letter < LETTER_ROOM; letter++) {
                weights[letter] = 1;
                levels[letter] = 0;
                approximate[letter] = 1.0f;
            }
        }

        void copyFrom(Rewriting other) {
            letterCount = other.letterCount;
            rules = other.rules;
            status = other.status;
            string = other.string;
            System.arraycopy(other.left, 0, left, 0, MOST_RULES);
            System.arraycopy(other.right, 0, right, 0, MOST_RULES);
            for (int rule = 0; rule < MOST_RULES; rule++) {
                System.arraycopy(other.balances[rule], 0, balances[rule], 0, LETTER_ROOM);
            }
            System.arraycopy(other.weights, 0, weights, 0, LETTER_ROOM);
            System.arraycopy(other.levels, 0, levels, 0, LETTER_ROOM);
            System.arraycopy(other.approximate, 0, approximate, 0, LETTER_ROOM);
        }

        boolean hasLetter(int letter) {
            return letter >= 0 && letter < letterCount;
        }

        boolean hasRule(int rule) {
            return rule >= 0 && rule < rules;
        }

        int putRule(long newLeft, long newRight) {
            if (rules >= MOST_RULES) {
                return FULL;
            }
            left[rules] = newLeft;
            right[rules] = newRight;
            int[] row = balances[rules];
            Arrays.fill(row, 0);
            for (int position = 0; position < Word.sizeOf(newLeft); position++) {
                row[Word.letterAt(newLeft, position)]++;
            }
            for (int position = 0; position < Word.sizeOf(newRight); position++) {
                row[Word.letterAt(newRight, position)]--;
            }
            rules++;
            return rules - 1;
        }

        void dropRule(int dropped) {
            for (int rule = dropped + 1; rule < rules; rule++) {
                left[rule - 1] = left[rule];
                right[rule - 1] = right[rule];
                System.arraycopy(balances[rule], 0, balances[rule - 1], 0, LETTER_ROOM);
            }
            rules--;
        }

        int weightOf(long word) {
            int sum = 0;
            for (int position = 0; position < Word.sizeOf(word); position++) {
                sum += weights[Word.letterAt(word, position)];
            }
            return sum;
        }

        int compareWords(long first, long second) {
            int difference = weightOf(first) - weightOf(second);
            int shorter = Math.min(Word.sizeOf(first), Word.sizeOf(second));
            for (int distance = 0; distance < shorter && difference == 0; distance++) {
                int firstLetter = Word.letterFrom(first, distance, status);
                int secondLetter = Word.letterFrom(second, distance, status);
                difference = levels[firstLetter] - levels[secondLetter];
            }
            if (difference == 0) {
                difference = Word.sizeOf(first) - Word.sizeOf(second);
            }
            return difference > 0 ? GREATER : difference < 0 ? LESS : EQUIVALENT;
        }

        boolean admissible() {
            int weightless = 0;
            boolean above = true;
            for (int letter = 0; letter < letterCount; letter++) {
                if (weights[letter] == 0) {
                    weightless++;
                    above = above && isAboveOthers(letter);
                }
            }
            return weightless == 0 || weightless == 1 && above;
        }

        boolean isAboveOthers(int letter) {
            for (int other = 0; other < letterCount; other++) {
                if (other != letter && levels[other] >= levels[letter]) {
                    return false;
                }
            }
            return true;
        }

        /** One rewriting step, or no word if it is not possible. */
        long stepped(long word, int rule, int position) {
            if (!Word.occursAt(left[rule], word, position)) {
                return NO_WORD;
            }
            return Word.replaced(word, position, left[rule], right[rule]);
        }

        long firstStep(long word) {
            for (int position = 0; position < Word.sizeOf(word); position++) {
                for (int rule = 0; rule < rules; rule++) {
                    long next = stepped(word, rule, position);
                    if (next != NO_WORD) {
                        return next;
                    }
                }
            }
            return NO_WORD;
        }

        float marginOf(int rule) {
            float sum = 0.0f;
            for (int letter = 0; letter < letterCount; letter++) {
                sum = sum + (float) balances[rule][letter] * approximate[letter];
            }
            return sum;
        }

        void widenMargin(int rule) {
            for (int letter = 0; letter < letterCount; letter++) {
                float changed = approximate[letter] + (float) balances[rule][letter] * 0.125f;
                approximate[letter] = changed < 0.0f ? 0.0f : changed;
            }
        }
    }

    /** The input buffer. What was consumed can still be read until bytes are put again. */
    private static final class Input {
        int count = 0;
        final byte[] bytes = new byte[MOST_BYTES];

        boolean put(int value, int times) {
            if (times > MOST_BYTES - count) {
                return false;
            }
            for (int time = 0; time < times; time++) {
                bytes[count] = (byte) value;
                count++;
            }
            return true;
        }

        int consume() {
            int held = count;
            count = 0;
            return held;
        }

        /** The first place of a byte among the first ones, or -1. */
        int find(int value, int held) {
            for (int index = 0; index < held; index++) {
                if (bytes[index] == value) {
                    return index;
                }
            }
            return -1;
        }

        /** The bytes of a range as a string of at most so many of the letters, or no word. */
        long read(int from, int end, int most, int letterCount) {
            if (end - from > most) {
                return NO_WORD;
            }
            long word = 0L;
            for (int index = from; index < end; index++) {
                int letter = bytes[index] - 'a';
                if (letter < 0 || letter >= letterCount) {
                    return NO_WORD;
                }
                word = Word.extended(word, letter);
            }
            return word;
        }
    }

    /** The stored loop; none is stored while it has no steps. */
    private static final class Loop {
        int steps = 0;
        final int[] rules = new int[MOST_FOUND];
        final int[] positions = new int[MOST_FOUND];
    }

    /** The different strings that a search has derived, in the order in which they were found. */
    private static final class Found {
        private static final int TABLE = 512;
        private static final int HASH_SHIFT = 55;
        private static final long HASH_FACTOR = 0x9E3779B97F4A7C15L;

        int count = 0;
        final long[] words = new long[MOST_FOUND];
        /** Where a word's hash leads: its number plus one, 0 where there is none. */
        final int[] table = new int[TABLE];
        final int[] parents = new int[MOST_FOUND];
        final int[] depths = new int[MOST_FOUND];
        final int[] rules = new int[MOST_FOUND];
        final int[] positions = new int[MOST_FOUND];
        /** Steps into a word that the topological walk has not made yet. */
        final int[] stepsInto = new int[MOST_FOUND];
        final int[] queue = new int[MOST_FOUND];
        int queued = 0;

        void start(long word) {
            count = 0;
            Arrays.fill(table, 0);
            add(word);
        }

        /** The place in the table that holds a word, or the free one where it belongs. */
        int placeOf(long word) {
            int start = (int) (word * HASH_FACTOR >>> HASH_SHIFT);
            for (int step = 0; step < TABLE; step++) {
                int place = start + step & TABLE - 1;
                int number = table[place] - 1;
                if (number < 0 || number >= MOST_FOUND || words[number] == word) {
                    return place;
                }
            }
            return start;
        }

        /** The number of a word, or -1. */
        int numberOf(long word) {
            return table[placeOf(word)] - 1;
        }

        /** Adds a word that is not there yet and returns its number, or -1 if there are too many. */
        int add(long word) {
            if (count >= MOST_FOUND) {
                return -1;
            }
            int number = count;
            words[number] = word;
            parents[number] = -1;
            depths[number] = 0;
            stepsInto[number] = 0;
            table[placeOf(word)] = number + 1;
            count++;
            return number;
        }

        /** Finds all strings that come from the current one; false if there are too many. */
        boolean collectAll(Rewriting system) {
            start(system.string);
            for (int number = 0; number < count && number < MOST_FOUND; number++) {
                if (!expand(system, words[number])) {
                    return false;
                }
            }
            return true;
        }

        boolean expand(Rewriting system, long word) {
            for (int position = 0; position < Word.sizeOf(word); position++) {
                for (int rule = 0; rule < system.rules; rule++) {
                    long next = system.stepped(word, rule, position);
                    if (next != NO_WORD && !countStepInto(next)) {
                        return false;
                    }
                }
            }
            return true;
        }

        boolean countStepInto(long word) {
            int number = numberOf(word);
            if (number < 0) {
                number = add(word);
            }
            if (number < 0) {
                return false;
            }
            stepsInto[number]++;
            return true;
        }

        /** The longest way through the collected strings; none if the topological walk does not get to all of them. */
        int longestFromFirst(Rewriting system) {
            queued = 0;
            if (stepsInto[0] == 0) {
                queue[0] = 0;
                queued = 1;
            }
            int longest = 0;
            for (int walked = 0; walked < queued && walked < MOST_FOUND; walked++) {
                longest = Math.max(longest, depths[queue[walked]]);
                walkFrom(system, queue[walked]);
            }
            return queued == count ? longest : NONE;
        }

        void walkFrom(Rewriting system, int number) {
            long word = words[number];
            for (int position = 0; position < Word.sizeOf(word); position++) {
                for (int rule = 0; rule < system.rules; rule++) {
                    long next = system.stepped(word, rule, position);
                    if (next != NO_WORD) {
                        walkInto(numberOf(next), depths[number] + 1);
                    }
                }
            }
        }

        void walkInto(int number, int depth) {
            if (number < 0 || number >= count) {
                return;
            }
            depths[number] = Math.max(depths[number], depth);
            stepsInto[number]--;
            if (stepsInto[number] == 0 && queued < MOST_FOUND) {
                queue[queued] = number;
                queued++;
            }
        }

        /** Searches for a loop from a left side and stores it; returns its steps or why there is none. */
        int searchLoop(Rewriting system, long left, Loop loop) {
            start(left);
            for (int number = 0; number < count && number < MOST_FOUND; number++) {
                int answer = expandForLoop(system, number, loop);
                if (answer != NONE) {
                    return answer;
                }
            }
            return NONE;
        }

        int expandForLoop(Rewriting system, int number, Loop loop) {
            long word = words[number];
            for (int position = 0; position < Word.sizeOf(word); position++) {
                for (int rule = 0; rule < system.rules; rule++) {
                    long next = system.stepped(word, rule, position);
                    if (next == NO_WORD) {
                        continue;
                    }
                    // Before the limit is looked at: the string that closes a loop is never one too many.
                    if (Word.occurs(words[0], next)) {
                        return storeLoop(loop, number, rule, position);
                    }
                    if (numberOf(next) < 0 && !addStep(next, number, rule, position)) {
                        return LIMIT_EXCEEDED;
                    }
                }
            }
            return NONE;
        }

        boolean addStep(long word, int parent, int rule, int position) {
            int number = add(word);
            if (number < 0) {
                return false;
            }
            parents[number] = parent;
            depths[number] = depths[parent] + 1;
            rules[number] = rule;
            positions[number] = position;
            return true;
        }

        int storeLoop(Loop loop, int last, int lastRule, int lastPosition) {
            int steps = Math.min(depths[last] + 1, MOST_FOUND);
            loop.steps = steps;
            loop.rules[steps - 1] = lastRule;
            loop.positions[steps - 1] = lastPosition;
            int number = last;
            for (int step = steps - 2; step >= 0 && number > 0; step--) {
                loop.rules[step] = rules[number];
                loop.positions[step] = positions[number];
                number = parents[number];
            }
            return steps;
        }
    }

    /** Looks for the lexicographically smallest sequence of digits that fits, passing over hopeless beginnings. */
    private abstract static class Search {
        static final int MOST_PLACES = 8;
        /** Far above the number of beginnings that any search here has. */
        private static final int MOST_VISITS = 1000000;

        final int[] digits = new int[MOST_PLACES];

        /** Whether the chosen digits can begin what is sought; with all of them chosen, whether they are it. */
        abstract boolean mayFit(int chosen);

        boolean findFirst(int places, int limit) {
            if (places < 1 || places > MOST_PLACES) {
                return false;
            }
            digits[0] = 0;
            int chosen = 1;
            for (int visit = 0; visit < MOST_VISITS && chosen > 0; visit++) {
                if (!mayFit(chosen)) {
                    chosen = advance(chosen, limit);
                } else if (chosen < places) {
                    digits[chosen] = 0;
                    chosen++;
                } else {
                    return true;
                }
            }
            return false;
        }

        /** Goes to the next beginning that is no continuation of this one; returns its length, 0 if there is none. */
        private int advance(int chosen, int limit) {
            for (int place = chosen - 1; place >= 0; place--) {
                if (digits[place] < limit) {
                    digits[place]++;
                    return place + 1;
                }
            }
            return 0;
        }
    }

    /** Searches for factors by which every row's sum is at least a bound: weights, or a certificate against them. */
    private static final class LinearSearch extends Search {
        private int rows;
        private int places;
        private int least;
        private final int[][] coefficients = new int[MOST_PLACES][MOST_PLACES];
        /** The most that the digits from a place on can add to a row. */
        private final int[][] mostFrom = new int[MOST_PLACES][MOST_PLACES + 1];
        /** The sums of the rows over the chosen digits, a line for each number of them. */
        private final int[][] sums = new int[MOST_PLACES + 1][MOST_PLACES];
        private boolean zerosFit;

        void prepareWeights(Rewriting system, int limit) {
            rows = system.rules;
            places = system.letterCount;
            least = 1;
            zerosFit = rows == 0;
            for (int row = 0; row < rows; row++) {
                for (int place = 0; place < places; place++) {
                    coefficients[row][place] = system.balances[row][place];
                }
            }
            boundRows(limit);
        }

        void prepareCertificate(Rewriting system, int limit) {
            rows = system.letterCount;
            places = system.rules;
            least = 0;
            zerosFit = false;
            for (int row = 0; row < rows; row++) {
                for (int place = 0; place < places; place++) {
                    coefficients[row][place] = -system.balances[place][row];
                }
            }
            boundRows(limit);
        }

        private void boundRows(int limit) {
            for (int row = 0; row < rows; row++) {
                mostFrom[row][places] = 0;
                for (int place = places - 1; place >= 0; place--) {
                    mostFrom[row][place] = mostFrom[row][place + 1] + limit * Math.max(coefficients[row][place], 0);
                }
            }
        }

        boolean mayFit(int chosen) {
            int last = chosen - 1;
            for (int row = 0; row < rows; row++) {
                sums[chosen][row] = sums[last][row] + digits[last] * coefficients[row][last];
                if (sums[chosen][row] + mostFrom[row][chosen] < least) {
                    return false;
                }
            }
            return chosen < places || zerosFit || hasNonZero();
        }

        private boolean hasNonZero() {
            for (int place = 0; place < places; place++) {
                if (digits[place] != 0) {
                    return true;
                }
            }
            return false;
        }
    }

    /** Searches for levels that orient the rules whose sides have equal weights, and that are admissible. */
    private static final class LevelSearch extends Search {
        private static final int NO_LETTER = -1;

        private int letterCount;
        private int status;
        private int weightlessLetter;
        private int tied;
        private final long[] left = new long[MOST_RULES];
        private final long[] right = new long[MOST_RULES];

        /** Keeps the rules that need levels; false if no levels can make up for the weights. */
        boolean prepare(Rewriting system, int[] weights) {
            letterCount = system.letterCount;
            tied = 0;
            for (int rule = 0; rule < system.rules; rule++) {
                int difference = 0;
                for (int letter = 0; letter < letterCount; letter++) {
                    difference += weights[letter] * system.balances[rule][letter];
                }
                if (difference < 0) {
                    return false;
                }
                if (difference == 0) {
                    left[tied] = system.left[rule];
                    right[tied] = system.right[rule];
                    tied++;
                }
            }
            return findWeightless(weights);
        }

        private boolean findWeightless(int[] weights) {
            weightlessLetter = NO_LETTER;
            for (int letter = 0; letter < letterCount; letter++) {
                if (weights[letter] == 0) {
                    if (weightlessLetter != NO_LETTER) {
                        return false;
                    }
                    weightlessLetter = letter;
                }
            }
            return true;
        }

        boolean findFor(int wantedStatus) {
            status = wantedStatus;
            return findFirst(letterCount, letterCount - 1);
        }

        boolean mayFit(int chosen) {
            if (!mayBeAdmissible(chosen)) {
                return false;
            }
            for (int rule = 0; rule < tied; rule++) {
                if (!mayOrient(left[rule], right[rule], chosen)) {
                    return false;
                }
            }
            return true;
        }

        private boolean mayBeAdmissible(int chosen) {
            if (weightlessLetter < 0 || weightlessLetter >= chosen) {
                return true;
            }
            for (int letter = 0; letter < chosen; letter++) {
                if (letter != weightlessLetter && digits[letter] >= digits[weightlessLetter]) {
                    return false;
                }
            }
            return true;
        }

        private boolean mayOrient(long first, long second, int chosen) {
            int shorter = Math.min(Word.sizeOf(first), Word.sizeOf(second));
            for (int distance = 0; distance < shorter; distance++) {
                int firstLetter = Word.letterFrom(first, distance, status);
                int secondLetter = Word.letterFrom(second, distance, status);
                if (firstLetter == secondLetter) {
                    continue;
                }
                if (firstLetter >= chosen || secondLetter >= chosen) {
                    return true;
                }
                if (digits[firstLetter] != digits[secondLetter]) {
                    return digits[firstLetter] > digits[secondLetter];
                }
            }
            return Word.sizeOf(first) > Word.sizeOf(second);
        }
    }

    /** An array slot with room for every element type, so that allocating makes no object. */
    private static final class Slot {
        static final int FREE = -1;
        static final int INTS = 0;
        static final int FLOATS = 2;
        static final int DOUBLES = 3;

        int type = FREE;
        int size = 0;
        /** The elements of ints and of longs. */
        final long[] wholes = new long[MOST_ELEMENTS];
        private final float[] floats = new float[MOST_ELEMENTS];
        private final double[] doubles = new double[MOST_ELEMENTS];

        boolean isFree() {
            return type == FREE;
        }

        void fill(int newType, int newSize) {
            type = newType;
            size = newSize;
            for (int index = 0; index < MOST_ELEMENTS; index++) {
                wholes[index] = 0L;
                floats[index] = 0.0f;
                doubles[index] = 0.0;
            }
        }

        boolean hasIndex(int index) {
            return index >= 0 && index < size;
        }

        boolean hasRange(int from, int count) {
            return from >= 0 && from <= size && count >= 0 && count <= size - from;
        }

        void put(int index, long value) {
            if (type == FLOATS) {
                floats[index] = (float) value;
            } else if (type == DOUBLES) {
                doubles[index] = (double) value;
            } else {
                wholes[index] = type == INTS ? (long) (int) value : value;
            }
        }

        /**
         * Divides floats or doubles. LANGUAGE.md allows no arithmetic that answers NaN, as 0 / 0 does; but NaN stays
         * NaN when it is divided, and is cast to 0, so nobody can tell it from a zero that stays as it is.
         */
        void divide(int index, int divisor) {
            if (type == FLOATS && floats[index] != 0.0f) {
                floats[index] = floats[index] / (float) divisor;
            }
            if (type == DOUBLES && doubles[index] != 0.0) {
                doubles[index] = doubles[index] / (double) divisor;
            }
        }

        long asLong(int index) {
            if (type == FLOATS) {
                return (long) floats[index];
            }
            return type == DOUBLES ? (long) doubles[index] : wholes[index];
        }

        void copyFrom(Slot source, int sourceIndex, int targetIndex, int count) {
            System.arraycopy(source.wholes, sourceIndex, wholes, targetIndex, count);
            System.arraycopy(source.floats, sourceIndex, floats, targetIndex, count);
            System.arraycopy(source.doubles, sourceIndex, doubles, targetIndex, count);
        }
    }
}
