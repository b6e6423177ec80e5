import java.io.IOException;
import java.lang.reflect.Method;
import java.util.regex.Matcher;
import java.util.regex.Pattern;

/** A test for each sentence of the document and for its examples, and a look whether a sentence was forgotten. */
public final class SentenceTests extends Sentences {
    private static final Pattern CALL = Pattern.compile("(\\w+)\\(([^)]*)\\): (-?\\d+)");

    public static void main(String[] args) throws IOException, IllegalAccessException {
        document = new Document();
        runAll(DescriptionBoundaries.class);
        runAll(RuleBoundaries.class);
        runAll(SearchBoundaries.class);
        runAll(NumberBoundaries.class);
        runAll(EarlySentences.class);
        runAll(LateSentences.class);
        runAll(SentenceTests.class);
        running = "the whole document";
        for (String sentence : document.forgotten()) wrong("no test for " + sentence);
        end("SentenceTests");
    }

    static void examples() throws ReflectiveOperationException {
        says(0, "Examples: each one begins with a new object;");
        says(0, "after each call stands its result.");
        int calls = 0;
        for (String example : document.examples()) {
            fresh();
            Matcher call = CALL.matcher(example);
            for (; call.find(); calls++) due(call.group(), answer(call.group(1), call.group(2)), Long.parseLong(call.group(3)));
        }
        due("calls in the examples", calls, 32);
    }

    private static long answer(String name, String arguments) throws ReflectiveOperationException {
        for (Method m : RewritingTermination.class.getDeclaredMethods()) {
            if (!m.getName().equals(name)) continue;
            Object[] values = new Object[m.getParameterCount()];
            String[] written = arguments.split(", *");
            for (int i = 0; i < values.length; i++) {
                long value = Long.parseLong(written[i].replace("L", ""));
                values[i] = m.getParameterTypes()[i] == long.class ? (Object) value : (Object) (int) value;
            }
            return ((Number) m.invoke(x, values)).longValue();
        }
        throw new NoSuchMethodException(name);
    }
}
