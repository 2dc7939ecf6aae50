import java.io.IOException;
import java.nio.file.Files;
import java.nio.file.Path;
import java.util.ArrayList;
import java.util.LinkedHashMap;
import java.util.List;
import java.util.Map;

/** The document's sections, each with its sentences. */
final class Document {
    private static final Path FILE = Path.of("../shared/DOC.md");

    private final Map<String, List<String>> sections = new LinkedHashMap<>();

    Document() throws IOException {
        List<String> section = new ArrayList<>();
        for (String line : Files.readAllLines(FILE)) {
            if (line.startsWith("#")) {
                section = new ArrayList<>();
                sections.put(line.replaceAll("^#+ ", "").replaceAll(":.*", ""), section);
            } else if (!line.isBlank() && !line.startsWith("```")) {
                // Dots within "0, 1, .." end no sentence: behind an end comes a capital or a bracket.
                section.addAll(List.of(line.strip().split("(?<=\\.)\\s+(?=[A-Z(])")));
            }
        }
    }

    List<String> sentences(String section) {
        return sections.getOrDefault(section, List.of());
    }
}
