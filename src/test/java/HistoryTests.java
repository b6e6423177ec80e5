import java.util.ArrayList;
import java.util.List;

/** The rows that calls use again hold nothing back: after a reset an object that was used answers as a new one does. */
public final class HistoryTests extends Checks {
    /** The letters, the string and the rules of systems, large and small ones, with and without weights, orders and loops. */
    private static final String[][] SYSTEMS = {
        {"6", "aafff", "aafff>bafff", "a>b", "b>c", "c>d", "d>e", "f>e"},
        {"6", "aafff", "aafff>bafff", "a>b", "b>c", "c>d", "d>e", "f>e", "eeeee>eaafff", "ab>ba"},
        {"6", "aaaaaaaaaaaa", "a>b", "b>c", "c>d", "d>e", "e>f", "f>", "ab>ba", "fe>ef"},
        {"6", "ab", "f>e", "e>d", "d>c", "c>b", "b>a", "ff>f"},
        {"4", "", "a>aa", "b>bb", "c>cc", "d>dd", "abcd>dcba", "a>a", "b>b", "c>c"},
        {"1", ""},
        {"3", "abc"},
        {"6", "abcdef"},
        {"1", "aaa", "aa>a"},
        {"1", "a", "a>aa"},
        {"2", "abab", "ab>ba"},
        {"2", "aabb", "ba>ab", "b>"},
        {"3", "a", "a>b", "b>c"},
        {"3", "a", "a>b", "b>c", "c>a"},
        {"3", "cab", "aaa>bbb", "b>a"},
        {"4", "abcd", "a>bb", "b>cc", "c>d"},
    };

    private static final int CALLS = 9;

    public static void main(String[] args) throws IllegalAccessException {
        runAll(HistoryTests.class);
        end("HistoryTests");
    }

    static void everySystemAfterEveryOther() {
        List<String> anew = new ArrayList<>();
        for (String[] system : SYSTEMS) {
            fresh();
            anew.add(answers(system));
        }
        for (String[] earlier : SYSTEMS) {
            for (int later = 0; later < SYSTEMS.length; later++) {
                fresh();
                answers(earlier);
                due(String.join(" ", SYSTEMS[later]) + " after " + String.join(" ", earlier), answers(SYSTEMS[later]), anew.get(later));
            }
        }
    }

    static void everyCallAfterEveryOther() {
        for (String[] system : SYSTEMS) {
            for (int later = 0; later < CALLS; later++) {
                fresh();
                set(system);
                String want = call(later);
                for (String[] before : SYSTEMS) {
                    for (int earlier = 0; earlier < CALLS; earlier++) {
                        fresh();
                        set(before);
                        call(earlier);
                        set(system);
                        due("call " + later + " of " + String.join(" ", system) + " after call " + earlier + " of " + String.join(" ", before),
                            call(later), want);
                    }
                }
            }
        }
    }

    private static void set(String[] system) {
        x.reset(Integer.parseInt(system[0]));
        for (int i = 2; i < system.length; i++) rule(system[i]);
        string(system[1]);
    }

    /** A call that searches, its answer and what it changes. */
    private static String call(int number) {
        int answer = switch (number) {
            case 0 -> x.findWeights(6);
            case 1 -> x.findCertificate();
            case 2 -> x.findLevels();
            case 3 -> x.findOrder();
            case 4 -> x.longestDerivation();
            case 5 -> x.findLoop(0);
            case 6 -> x.normalize(7);
            case 7 -> x.improve(3);
            default -> x.roundWeights(5);
        };
        StringBuilder all = new StringBuilder().append(answer).append(' ').append(string());
        for (int letter = 0; letter < x.letters(); letter++) all.append(' ').append(x.weight(letter)).append(x.level(letter));
        all.append(" loop");
        for (int step = 0; x.loopStep(step, 0) >= 0; step++) all.append(' ').append(x.loopStep(step, 0)).append('@').append(x.loopStep(step, 1));
        return all.toString();
    }

    private static String answers(String[] system) {
        set(system);
        StringBuilder all = new StringBuilder();
        for (int number = 0; number < CALLS; number++) all.append(call(number)).append("; ");
        return all.toString();
    }
}
