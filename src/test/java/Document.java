import java.io.IOException;
import java.nio.file.Files;
import java.nio.file.Path;
import java.util.ArrayList;
import java.util.List;
import java.util.Map;
import java.util.Set;
import java.util.TreeMap;
import java.util.TreeSet;
import java.util.regex.Matcher;
import java.util.regex.Pattern;

/** The sentences of ../shared/DOC.md by promise, 0 for what stands before the first one, and which of them a test quotes. */
final class Document {
    private static final Path FILE = Path.of("../shared/DOC.md");

    /** What a sentence says that names a boundary case: a limit, something empty or full, an error, what a refusal leaves. */
    private static final Pattern BOUNDARY = Pattern.compile("[A-Z]+_[A-Z]+|FULL|NONE|\\d to |\\d or \\d|\\b(at most|at least|up to)\\b"
        + "|(more|less|larger) than|below|empt|Empt|[Ww]ithout|With one|\\bstays?\\b|keep|\\btoo\\b|consume|one or more|no loop"
        + "|discard|ignored|may be 0|beyond|exactly|initially|no pair|Letters with equal|replac|checked|deleted|become|counted from"
        + "|not added again|whether it is new|when a rule is visited|another float|negative|a Java cast|as by Java|no rules");

    private final Map<Integer, List<String>> sentences = new TreeMap<>();
    private final Map<Integer, Set<String>> quoted = new TreeMap<>();

    Document() throws IOException {
        String text = Files.readString(FILE).replaceAll("(?s)```.*?```", "");
        text = text.substring(0, text.indexOf("## Not promised"));
        int promise = 0;
        for (String paragraph : text.split("\\n\\s*\\n|\\n(?=- )|\\n(?=#)")) {
            String line = paragraph.strip().replaceAll("\\s+", " ");
            Matcher heading = Pattern.compile("## Promise (\\d+):.*").matcher(line);
            if (heading.matches()) promise = Integer.parseInt(heading.group(1));
            else if (!line.isEmpty() && !isOutside(line)) addSentences(promise, line);
        }
    }

    private static boolean isOutside(String line) {
        return line.startsWith("#") || line.matches("- \\w+\\(.*") || line.matches("`.*`");
    }

    private void addSentences(int promise, String line) {
        for (String sentence : line.replaceFirst("^- ", "").split("(?<=[.;])\\s+")) {
            sentences.computeIfAbsent(promise, p -> new ArrayList<>()).add(sentence);
        }
    }

    /** Notes that a test quotes a sentence; false if the document has no such sentence there. */
    boolean quote(int promise, String sentence) {
        quoted.computeIfAbsent(promise, p -> new TreeSet<>()).add(sentence);
        return sentences.getOrDefault(promise, List.of()).contains(sentence);
    }

    /** The sentences that name a boundary case and that no test quotes. */
    List<String> forgotten() {
        List<String> all = new ArrayList<>();
        sentences.forEach((promise, said) -> {
            for (String sentence : said) {
                boolean known = quoted.getOrDefault(promise, Set.of()).contains(sentence);
                if (!known && BOUNDARY.matcher(sentence).find()) all.add("promise " + promise + ": " + sentence);
            }
        });
        return all;
    }

    int promises() { return sentences.size() - 1; }
}
