import java.io.IOException;
import java.util.ArrayList;
import java.util.List;

/**
 * The boundary cases that the document names: each of its sentences has a test of its own, which
 * quotes the words that it tests.
 */
public final class BoundaryTest {
    private static final int PROMISES = 13;

    private BoundaryTest() {
    }

    public static void main(String[] args) throws IOException {
        TermsBoundaries.test();
        TreeBoundaries.test();
        CallBoundaries.test();
        List<String> sections = new ArrayList<>(List.of("What it is", "Terms"));
        for (int i = 1; i <= PROMISES; i++) {
            sections.add("Promise " + i);
        }
        Sentence.dueAllOf(new Document(), sections);
        Check.end();
    }
}
