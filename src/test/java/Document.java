import java.io.IOException;
import java.nio.file.Files;
import java.nio.file.Path;
import java.util.ArrayList;
import java.util.List;
import java.util.Map;
import java.util.Set;
import java.util.TreeMap;
import java.util.TreeSet;
import java.util.regex.Matcher;
import java.util.regex.Pattern;

/** The sentences of ../shared/DOC.md by promise, 0 for what stands before the first one, and which of them a test quotes. */
final class Document {
    private static final Path FILE = Path.of("../shared/DOC.md");

    /** Sentences without anything that a call could show: titles, names of parameters, remarks on the document itself. */
    private static final Pattern SILENT = Pattern.compile("(Strings|Rules|Balance|Weights|Precedence|Order|Admissibility"
        + "|Approximate weights|Input buffer|Arrays|Details)\\.|`(\\w+)`: the \\2|A termination analyser for string .*"
        + "|what later calls answer is free\\.|Two strings are compared as follows\\.|The constants:"
        + "|The constructor and the methods follow, .*");

    private final List<String> examples = new ArrayList<>();
    private final Map<Integer, List<String>> sentences = new TreeMap<>();
    private final Map<Integer, Set<String>> quoted = new TreeMap<>();

    Document() throws IOException {
        String text = Files.readString(FILE).replaceAll("(?s)```.*?```", "");
        text = text.substring(0, text.indexOf("## Not promised"));
        int promise = 0;
        for (String paragraph : text.split("\\n\\s*\\n|\\n(?=- )|\\n(?=#)")) {
            String line = paragraph.strip().replaceAll("\\s+", " ");
            Matcher heading = Pattern.compile("## Promise (\\d+):.*").matcher(line);
            if (heading.matches()) promise = Integer.parseInt(heading.group(1));
            else if (line.matches("- \\w+\\(.*")) examples.add(line);
            else if (!line.isEmpty() && !isOutside(line)) addSentences(promise, line);
        }
    }

    private static boolean isOutside(String line) {
        return line.startsWith("#") || line.matches("`.*`");
    }

    private void addSentences(int promise, String line) {
        for (String sentence : line.replaceFirst("^- ", "").split("(?<=[.;])\\s+")) {
            sentences.computeIfAbsent(promise, p -> new ArrayList<>()).add(sentence);
        }
    }

    /** Notes that a test quotes a sentence; false if the document has no such sentence there. */
    boolean quote(int promise, String sentence) {
        quoted.computeIfAbsent(promise, p -> new TreeSet<>()).add(sentence);
        return sentences.getOrDefault(promise, List.of()).contains(sentence);
    }

    /** The sentences that no test quotes and that a call could show to be broken. */
    List<String> forgotten() {
        List<String> all = new ArrayList<>();
        sentences.forEach((promise, said) -> {
            for (String sentence : said) {
                boolean known = quoted.getOrDefault(promise, Set.of()).contains(sentence);
                if (!known && !SILENT.matcher(sentence).matches()) all.add("promise " + promise + ": " + sentence);
            }
        });
        return all;
    }

    List<String> examples() { return examples; }
}
