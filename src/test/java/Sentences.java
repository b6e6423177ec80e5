/** Tests of single sentences: each begins with the sentence of the document that it would catch being broken. */
abstract class Sentences extends Checks {
    static Document document;

    /** Begins a test, with a new object; the sentence must stand in the document under that promise. */
    static void says(int promise, String sentence) {
        running = "promise " + promise + ": " + sentence;
        due("the document has the sentence", document.quote(promise, sentence) ? 1 : 0, 1);
        fresh();
    }

    /** Fills the input buffer anew, whatever it holds. */
    static void buffer(String text) {
        x.clearInput();
        type(text);
    }

    /** What the slot holds, up to the first index that it does not have. */
    static String array(int slot) {
        StringBuilder all = new StringBuilder();
        for (int i = 0; i < 40 && x.element(slot, i) != Long.MIN_VALUE; i++) all.append(x.element(slot, i)).append(' ');
        return all.toString().strip();
    }

    static void fill(int slot, int type, long... values) {
        due("allocate", x.allocate(slot, type, values.length), values.length);
        for (int i = 0; i < values.length; i++) due("putElement", x.putElement(slot, i, values[i]), 1);
    }

    static void eightRules() {
        for (int r = 0; r < 8; r++) due("rule " + r, rule("a".repeat(r % 6 + 1) + ">b"), r);
    }

    /** A rule whose loop has one step, so that a test can see whether it is still stored. */
    static void storeLoop() {
        due("the number of the rule", rule("a>ba"), x.ruleCount() - 1);
        due("findLoop", x.findLoop(x.ruleCount() - 1), 1);
        dueLoop(true);
    }

    static void dueLoop(boolean stored) {
        due("a loop is stored", x.loopStep(0, 1) == 0 ? 1 : 0, stored ? 1 : 0);
        if (!stored) due("loopStep without a loop", x.loopStep(0, 0), -6);
    }
}
