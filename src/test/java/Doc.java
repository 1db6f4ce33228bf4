import java.io.IOException;
import java.nio.file.Files;
import java.nio.file.Path;
import java.util.ArrayList;
import java.util.LinkedHashMap;
import java.util.List;
import java.util.Map;

/** The sections of ../shared/DOC.md, each as its sentences. A line of a list is a sentence, too. */
final class Doc {
    private static final Path PAGE = Path.of("..", "shared", "DOC.md");

    private final Map<String, List<String>> sections = new LinkedHashMap<>();

    Doc() throws IOException {
        String heading = "";
        for (String line : Files.readAllLines(PAGE)) {
            if (line.startsWith("## ")) {
                heading = line.substring(3).trim();
                sections.put(heading, new ArrayList<>());
            } else if (sections.containsKey(heading)) {
                addSentences(sections.get(heading), line.trim());
            }
        }
    }

    private static void addSentences(List<String> sentences, String line) {
        String plain = line.startsWith("- ") ? line.substring(2) : line.replaceFirst("^`[^`]*\\)[^`]*`: ", "");
        for (String sentence : plain.split("(?<=\\.)\\s+|(?<=\\.\\))\\s+")) {
            if (!sentence.isBlank()) {
                sentences.add(sentence);
            }
        }
    }

    Iterable<String> headings() {
        return sections.keySet();
    }

    List<String> sentences(String heading) {
        return sections.getOrDefault(heading, List.of());
    }

    /** Whether the section says this, in a part of one sentence or in one whole. */
    boolean says(String heading, String quote) {
        for (String sentence : sentences(heading)) {
            if (sentence.contains(quote)) {
                return true;
            }
        }
        return false;
    }
}
