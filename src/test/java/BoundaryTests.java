import java.io.IOException;

/** A test for each sentence of the document that names a boundary case, and a look whether one was forgotten. */
public final class BoundaryTests extends Boundaries {
    public static void main(String[] args) throws IOException, IllegalAccessException {
        document = new Document();
        runAll(DescriptionBoundaries.class);
        runAll(RuleBoundaries.class);
        runAll(SearchBoundaries.class);
        runAll(NumberBoundaries.class);
        for (String sentence : document.forgotten()) wrong("no test for " + sentence);
        end("BoundaryTests");
    }
}
