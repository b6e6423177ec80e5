import java.util.ArrayList;
import java.util.HashMap;
import java.util.HashSet;
import java.util.List;
import java.util.Map;
import java.util.Set;

/** A second, slow reading of the document, by brute force and with the Java library, to compare answers with. */
final class Reference {
    static final int BAD_ARGUMENT = -1, NO_SUCH_LETTER = -2, NO_SUCH_RULE = -3, FULL = -4, BAD_INPUT = -5, NONE = -6;
    static final int LIMIT_EXCEEDED = -7, ALPHABET_TOO_LARGE = -8, NOT_APPLICABLE = -9, EMPTY_SLOT = -11;
    static final int WRONG_TYPE = -12, INDEX_OUT_OF_RANGE = -13, NEGATIVE_SIZE = -14;
    static final long NO_VALUE = Long.MIN_VALUE;

    record Rule(String left, String right) {}

    private record Image(int n, List<Rule> rules, int[] weights, int[] levels, int status, float[] approximate, String text) {}

    private int n = 3;
    private List<Rule> rules = new ArrayList<>();
    private int[] weights = {1, 1, 1};
    private int[] levels = new int[3];
    private int status = 0;
    private float[] approximate = {1f, 1f, 1f};
    private String text = "";
    private String buffer = "";
    private List<int[]> loop = null;
    private Image image = null;
    private final Object[] slots = new Object[4];

    int reset(int letters) {
        if (letters < 1 || letters > 6) return BAD_ARGUMENT;
        int old = n;
        n = letters;
        rules = new ArrayList<>();
        weights = new int[n];
        levels = new int[n];
        approximate = new float[n];
        for (int i = 0; i < n; i++) { weights[i] = 1; approximate[i] = 1f; }
        status = 0;
        text = "";
        loop = null;
        return old;
    }

    int letters() { return n; }

    int append(int value, int count) {
        if (value < 0 || value > 127 || count < 1 || count > 40) return BAD_ARGUMENT;
        if (buffer.length() + count > 40) return FULL;
        buffer += String.valueOf((char) value).repeat(count);
        return buffer.length();
    }

    int clearInput() { int size = buffer.length(); buffer = ""; return size; }

    private String word(String letter, String most) { return "[a-" + (char) ('a' + n - 1) + "]" + letter + most; }

    int addRule() {
        String input = buffer;
        buffer = "";
        if (rules.size() == 8) return FULL;
        if (!input.matches("(?s)" + word("{1,6}", "") + ">" + word("{0,6}", ""))) return BAD_INPUT;
        String[] sides = input.split(">", -1);
        rules.add(new Rule(sides[0], sides[1]));
        return rules.size() - 1;
    }

    private boolean noRule(int rule) { return rule < 0 || rule >= rules.size(); }
    private boolean noLetter(int letter) { return letter < 0 || letter >= n; }

    int removeRule(int rule) {
        if (noRule(rule)) return NO_SUCH_RULE;
        rules.remove(rule);
        loop = null;
        return rules.size();
    }

    int ruleCount() { return rules.size(); }

    int ruleLetter(int rule, int side, int position) {
        if (noRule(rule)) return NO_SUCH_RULE;
        if (side != 0 && side != 1) return BAD_ARGUMENT;
        String s = side == 0 ? rules.get(rule).left : rules.get(rule).right;
        return position < 0 || position >= s.length() ? NONE : s.charAt(position) - 'a';
    }

    private static int count(String s, int letter) { return (int) s.chars().filter(c -> c == 'a' + letter).count(); }
    private static int bal(Rule r, int letter) { return count(r.left, letter) - count(r.right, letter); }

    int balance(int rule, int letter) {
        if (noRule(rule)) return NO_SUCH_RULE;
        return noLetter(letter) ? NO_SUCH_LETTER : 100 + bal(rules.get(rule), letter);
    }

    int setWeight(int letter, int weight) {
        if (noLetter(letter)) return NO_SUCH_LETTER;
        if (weight < 0 || weight > 99) return BAD_ARGUMENT;
        int old = weights[letter];
        weights[letter] = weight;
        return old;
    }

    int weight(int letter) { return noLetter(letter) ? NO_SUCH_LETTER : weights[letter]; }

    int setLevel(int letter, int level) {
        if (noLetter(letter)) return NO_SUCH_LETTER;
        if (level < 0 || level > 9) return BAD_ARGUMENT;
        int old = levels[letter];
        levels[letter] = level;
        return old;
    }

    int level(int letter) { return noLetter(letter) ? NO_SUCH_LETTER : levels[letter]; }

    int setStatus(int s) {
        if (s != 0 && s != 1) return BAD_ARGUMENT;
        int old = status;
        status = s;
        return old;
    }

    private static boolean admissible(int[] w, int[] l) {
        int zeros = 0, zero = -1;
        for (int i = 0; i < w.length; i++) if (w[i] == 0) { zeros++; zero = i; }
        if (zeros == 0) return true;
        if (zeros > 1) return false;
        for (int i = 0; i < w.length; i++) if (i != zero && l[i] >= l[zero]) return false;
        return true;
    }

    int isAdmissible() { return admissible(weights, levels) ? 1 : 0; }

    private static int heft(String s, int[] w) { return s.chars().map(c -> w[c - 'a']).sum(); }

    private static int compare(String s, String t, int[] w, int[] l, int status) {
        int ws = heft(s, w), wt = heft(t, w);
        if (ws != wt) return ws > wt ? 2 : 0;
        if (status == 1) {
            s = new StringBuilder(s).reverse().toString();
            t = new StringBuilder(t).reverse().toString();
        }
        for (int i = 0; i < s.length() && i < t.length(); i++) {
            int ls = l[s.charAt(i) - 'a'], lt = l[t.charAt(i) - 'a'];
            if (ls != lt) return ls > lt ? 2 : 0;
        }
        return s.length() == t.length() ? 1 : s.length() > t.length() ? 2 : 0;
    }

    int compareSides(int rule) {
        if (noRule(rule)) return NO_SUCH_RULE;
        return compare(rules.get(rule).left, rules.get(rule).right, weights, levels, status);
    }

    int compareWithInput() {
        String input = buffer;
        buffer = "";
        return input.matches("(?s)" + word("{0,12}", "")) ? compare(text, input, weights, levels, status) : BAD_INPUT;
    }

    private boolean oriented(int[] w, int[] l, int s) {
        for (Rule r : rules) if (compare(r.left, r.right, w, l, s) != 2) return false;
        return true;
    }

    int firstUnoriented() {
        for (int i = 0; i < rules.size(); i++) if (compareSides(i) != 2) return i;
        return NONE;
    }

    private static int[] digits(int code, int places, int base) {
        int[] d = new int[places];
        for (int i = places - 1; i >= 0; i--) { d[i] = code % base; code /= base; }
        return d;
    }

    private static int power(int base, int exponent) {
        int p = 1;
        for (int i = 0; i < exponent; i++) p *= base;
        return p;
    }

    int findWeights(int limit) {
        if (limit < 1 || limit > 6) return BAD_ARGUMENT;
        for (int code = 0; code < power(limit + 1, n); code++) {
            int[] w = digits(code, n, limit + 1);
            boolean good = true;
            for (Rule r : rules) good = good && heft(r.left, w) > heft(r.right, w);
            if (good) {
                weights = w;
                int sum = 0;
                for (int x : w) sum += x;
                return sum;
            }
        }
        return NONE;
    }

    private boolean certifies(long[] c) {
        boolean some = false;
        for (long x : c) { if (x < 0) return false; some |= x > 0; }
        for (int letter = 0; letter < n; letter++) {
            long sum = 0;
            for (int i = 0; i < c.length; i++) sum += c[i] * bal(rules.get(i), letter);
            if (sum > 0) return false;
        }
        return some;
    }

    int findCertificate() {
        int m = rules.size();
        int[][] balances = new int[m][n];
        for (int i = 0; i < m; i++) for (int k = 0; k < n; k++) balances[i][k] = bal(rules.get(i), k);
        next:
        for (int code = 1; code < power(4, m); code++) {
            int[] d = digits(code, m, 4);
            for (int k = 0; k < n; k++) {
                int sum = 0;
                for (int i = 0; i < m; i++) sum += d[i] * balances[i][k];
                if (sum > 0) continue next;
            }
            return code;
        }
        return NONE;
    }

    private int[] levelsFor(int[] w, int s) {
        for (int code = 0; code < power(n, n); code++) {
            int[] l = digits(code, n, n);
            if (admissible(w, l) && oriented(w, l, s)) return l;
        }
        return null;
    }

    int findLevels() {
        int[] l = levelsFor(weights, status);
        if (l == null) return NONE;
        levels = l;
        int sum = 0;
        for (int k = 0; k < n; k++) sum += l[k] * power(10, k);
        return sum;
    }

    int findOrder() {
        if (n > 4) return ALPHABET_TOO_LARGE;
        for (int code = 0; code < power(3, n); code++) {
            int[] w = digits(code, n, 3);
            for (int s = 0; s < 2; s++) {
                int[] l = levelsFor(w, s);
                if (l != null) {
                    weights = w;
                    status = s;
                    levels = l;
                    return 1;
                }
            }
        }
        return NONE;
    }

    int reachableLetters(int letter) {
        if (noLetter(letter)) return NO_SUCH_LETTER;
        boolean[][] leads = new boolean[n][n];
        for (Rule r : rules) for (char x : r.left.toCharArray()) for (char y : r.right.toCharArray()) leads[x - 'a'][y - 'a'] = true;
        for (int k = 0; k < n; k++) for (int i = 0; i < n; i++) for (int j = 0; j < n; j++) leads[i][j] |= leads[i][k] && leads[k][j];
        int set = 0;
        for (int k = 0; k < n; k++) if (leads[letter][k]) set += 1 << k;
        return set;
    }

    int setString() {
        String input = buffer;
        buffer = "";
        if (!input.matches("(?s)" + word("{0,12}", ""))) return BAD_INPUT;
        text = input;
        return text.length();
    }

    int stringLength() { return text.length(); }
    int stringLetter(int p) { return p < 0 || p >= text.length() ? NONE : text.charAt(p) - 'a'; }
    int stringWeight() { return heft(text, weights); }

    private static String apply(String s, Rule r, int p) {
        if (p < 0 || p > s.length() || !s.startsWith(r.left, p)) return null;
        String t = s.substring(0, p) + r.right + s.substring(p + r.left.length());
        return t.length() > 12 ? null : t;
    }

    int rewrite(int rule, int position) {
        if (noRule(rule)) return NO_SUCH_RULE;
        String t = apply(text, rules.get(rule), position);
        if (t == null) return NOT_APPLICABLE;
        text = t;
        return t.length();
    }

    private record Step(int rule, int position, String result) {}

    private List<Step> steps(String s) {
        List<Step> all = new ArrayList<>();
        for (int p = 0; p < s.length(); p++)
            for (int r = 0; r < rules.size(); r++) {
                String t = apply(s, rules.get(r), p);
                if (t != null) all.add(new Step(r, p, t));
            }
        return all;
    }

    int normalize(int steps) {
        if (steps < 0 || steps > 1000) return BAD_ARGUMENT;
        for (int made = 0; made < steps; made++) {
            List<Step> all = steps(text);
            if (all.isEmpty()) return made;
            text = all.get(0).result;
        }
        return steps;
    }

    int longestDerivation() {
        Set<String> seen = new HashSet<>();
        List<String> order = new ArrayList<>();
        seen.add(text);
        order.add(text);
        for (int i = 0; i < order.size(); i++)
            for (Step s : steps(order.get(i)))
                if (seen.add(s.result)) {
                    order.add(s.result);
                    if (order.size() > 200) return LIMIT_EXCEEDED;
                }
        // Longest ways by relaxing: a way of as many steps as there are strings comes back to one of them.
        Map<String, Integer> far = new HashMap<>();
        far.put(text, 0);
        for (int round = 0; round <= order.size(); round++) {
            boolean changed = false;
            for (String s : order) {
                Integer d = far.get(s);
                if (d == null) continue;
                for (Step step : steps(s))
                    if (far.getOrDefault(step.result, -1) < d + 1) {
                        if (d + 1 >= order.size()) return NONE;
                        far.put(step.result, d + 1);
                        changed = true;
                    }
            }
            if (!changed) break;
        }
        return far.values().stream().mapToInt(x -> x).max().orElse(0);
    }

    int findLoop(int rule) {
        if (noRule(rule)) return NO_SUCH_RULE;
        String left = rules.get(rule).left;
        Map<String, List<int[]>> ways = new HashMap<>();
        List<String> order = new ArrayList<>();
        ways.put(left, new ArrayList<>());
        order.add(left);
        for (int i = 0; i < order.size(); i++)
            for (Step s : steps(order.get(i))) {
                List<int[]> way = new ArrayList<>(ways.get(order.get(i)));
                way.add(new int[] {s.rule, s.position});
                if (s.result.contains(left)) {
                    loop = way;
                    return way.size();
                }
                if (!ways.containsKey(s.result)) {
                    ways.put(s.result, way);
                    order.add(s.result);
                    if (order.size() > 200) return LIMIT_EXCEEDED;
                }
            }
        return NONE;
    }

    int loopStep(int step, int what) {
        if (what != 0 && what != 1) return BAD_ARGUMENT;
        return loop == null || step < 0 || step >= loop.size() ? NONE : loop.get(step)[what];
    }

    private float mar(Rule r) {
        float sum = 0.0f;
        for (int k = 0; k < n; k++) sum += (float) bal(r, k) * approximate[k];
        return sum;
    }

    int improve(int rounds) {
        if (rounds < 1 || rounds > 100) return BAD_ARGUMENT;
        for (int i = 0; i < rounds; i++)
            for (Rule r : rules)
                if (mar(r) < 0.5f)
                    for (int k = 0; k < n; k++) approximate[k] = Math.max(0.0f, approximate[k] + (float) bal(r, k) * 0.125f);
        return (int) rules.stream().filter(r -> mar(r) >= 0.5f).count();
    }

    int setApproximateWeight(int letter, int p, int q) {
        if (noLetter(letter)) return NO_SUCH_LETTER;
        if (p < 0 || p > 1000000 || q < 1 || q > 1000000) return BAD_ARGUMENT;
        float old = approximate[letter];
        approximate[letter] = (float) p / (float) q;
        return approximate[letter] == old ? 0 : 1;
    }

    long approximateWeight(int letter) { return noLetter(letter) ? NO_VALUE : (long) ((double) approximate[letter] * 1000000.0); }
    long margin(int rule) { return noRule(rule) ? NO_VALUE : (long) ((double) mar(rules.get(rule)) * 1000000.0); }

    int roundWeights(int factor) {
        if (factor < 1 || factor > 100) return BAD_ARGUMENT;
        for (int k = 0; k < n; k++) weights[k] = (int) Math.min(99.0, Math.rint((double) approximate[k] * factor));
        return (int) rules.stream().filter(r -> heft(r.left, weights) > heft(r.right, weights)).count();
    }

    private static boolean noSlot(int slot) { return slot < 0 || slot > 3; }

    int allocate(int slot, int type, int size) {
        if (noSlot(slot) || type < 0 || type > 3 || size > 40) return BAD_ARGUMENT;
        if (size < 0) return NEGATIVE_SIZE;
        slots[slot] = type == 0 ? new int[size] : type == 1 ? new long[size] : type == 2 ? new float[size] : new double[size];
        return size;
    }

    int release(int slot) {
        if (noSlot(slot)) return BAD_ARGUMENT;
        int held = slots[slot] == null ? 0 : 1;
        slots[slot] = null;
        return held;
    }

    private static int size(Object array) { return java.lang.reflect.Array.getLength(array); }

    int putElement(int slot, int index, long value) {
        if (noSlot(slot)) return BAD_ARGUMENT;
        if (slots[slot] == null) return EMPTY_SLOT;
        if (index < 0 || index >= size(slots[slot])) return INDEX_OUT_OF_RANGE;
        if (slots[slot] instanceof int[] a) a[index] = (int) value;
        if (slots[slot] instanceof long[] a) a[index] = value;
        if (slots[slot] instanceof float[] a) a[index] = (float) value;
        if (slots[slot] instanceof double[] a) a[index] = (double) value;
        return 1;
    }

    int divideElement(int slot, int index, int divisor) {
        if (noSlot(slot)) return BAD_ARGUMENT;
        if (slots[slot] == null) return EMPTY_SLOT;
        if (slots[slot] instanceof int[] || slots[slot] instanceof long[]) return WRONG_TYPE;
        if (index < 0 || index >= size(slots[slot])) return INDEX_OUT_OF_RANGE;
        if (slots[slot] instanceof float[] a) a[index] /= (float) divisor;
        if (slots[slot] instanceof double[] a) a[index] /= (double) divisor;
        return 1;
    }

    long element(int slot, int index) {
        if (noSlot(slot) || slots[slot] == null || index < 0 || index >= size(slots[slot])) return NO_VALUE;
        if (slots[slot] instanceof int[] a) return a[index];
        if (slots[slot] instanceof long[] a) return a[index];
        if (slots[slot] instanceof float[] a) return (long) a[index];
        return (long) ((double[]) slots[slot])[index];
    }

    int copyElements(int source, int sourceIndex, int target, int targetIndex, int count) {
        if (noSlot(source) || noSlot(target)) return BAD_ARGUMENT;
        if (slots[source] == null || slots[target] == null) return EMPTY_SLOT;
        if (slots[source].getClass() != slots[target].getClass()) return WRONG_TYPE;
        try {
            System.arraycopy(slots[source], sourceIndex, slots[target], targetIndex, count);
            return count;
        } catch (IndexOutOfBoundsException outside) {
            return INDEX_OUT_OF_RANGE;
        }
    }

    int checkCertificate(int slot) {
        if (noSlot(slot)) return BAD_ARGUMENT;
        if (slots[slot] == null) return EMPTY_SLOT;
        if (!(slots[slot] instanceof int[] a)) return WRONG_TYPE;
        if (a.length < rules.size()) return INDEX_OUT_OF_RANGE;
        long[] c = new long[rules.size()];
        for (int i = 0; i < c.length; i++) c[i] = a[i];
        return certifies(c) ? 1 : 0;
    }

    int snapshot() {
        image = new Image(n, new ArrayList<>(rules), weights.clone(), levels.clone(), status, approximate.clone(), text);
        return rules.size();
    }

    int restore() {
        if (image == null) return NONE;
        n = image.n;
        rules = new ArrayList<>(image.rules);
        weights = image.weights.clone();
        levels = image.levels.clone();
        status = image.status;
        approximate = image.approximate.clone();
        text = image.text;
        loop = null;
        return rules.size();
    }
}
