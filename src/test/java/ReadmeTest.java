import java.io.IOException;
import java.nio.file.Files;
import java.nio.file.Path;
import java.util.ArrayList;
import java.util.List;

/** The example of README.md: each line whose comment begins with an answer, and what it answers. */
public final class ReadmeTest {
    private static final List<String> TOLD = new ArrayList<>();

    private ReadmeTest() {
    }

    private static void readExample() throws IOException {
        boolean inside = false;
        for (String line : Files.readAllLines(Path.of("README.md"))) {
            inside = line.equals("```java") || inside && !line.equals("```");
            if (inside && line.matches(".*// (-?\\d+|true|false)\\b.*")) {
                TOLD.add(line.replaceAll("\\s*// (-?\\w+).*", " $1"));
            }
        }
    }

    private static void due(String call, Object answer) {
        String next = TOLD.isEmpty() ? "nothing" : TOLD.remove(0);
        Check.due("README.md tells '" + next + "', and '" + call + " " + answer + "'", true, next.equals(call + " " + answer));
    }

    private static void put(NeededTrees t, int... numbers) {
        for (int v : numbers) {
            t.put(v);
        }
    }

    public static void main(String[] args) throws IOException {
        readExample();
        NeededTrees t = new NeededTrees();
        int nat = t.type();
        due("int nat = t.type();", nat);
        int zero = t.constructor(nat, 0, 0);
        due("int zero = t.constructor(nat, 0, 0);", zero);
        int next = t.constructor(nat, 1, nat);
        due("int next = t.constructor(nat, 1, nat);", next);
        due("t.begin(2, 0);", t.begin(2, 0));
        put(t, zero, -1);
        due("t.rule();", t.rule());
        put(t, next, -1, -1);
        due("t.rule();", t.rule());
        due("t.size();", t.size());
        due("t.node(0, 0);", t.node(0, 0));
        due("t.node(0, 5);", t.node(0, 5));
        due("t.node(2, 3);", t.node(2, 3));
        due("t.covers();", t.covers());
        due("t.clash(0, 1);", t.clash(0, 1));
        put(t, -1, -2);
        due("t.lead();", t.lead());
        due("t.outcome(1, 0);", t.outcome(1, 0));
        due("t.outcome(1, 2);", t.outcome(1, 2));
        due("t.outcome(1, 3);", t.outcome(1, 3));
        due("t.outcome(1, 4);", t.outcome(1, 4));
        due("t.outcome(1, 5);", t.outcome(1, 5));
        due("t.outcome(1, 6);", t.outcome(1, 6));
        put(t, zero, 7);
        due("t.lead();", t.lead());
        Check.due("lines of README.md that were not run: " + TOLD, 0, TOLD.size());
        Check.end();
    }
}
