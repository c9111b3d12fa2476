import java.io.IOException;
import java.nio.file.Files;
import java.nio.file.Path;
import java.util.ArrayList;
import java.util.LinkedHashMap;
import java.util.List;
import java.util.Map;

/** The sentences of the document, by heading: a row of a list or of a table counts as a sentence. */
final class Doc {
    private final Map<String, List<String>> sentences = new LinkedHashMap<>();
    private String heading = "";
    private boolean inTable = false;

    private Doc(List<String> rows) {
        for (String row : rows) {
            read(row);
        }
    }

    static Doc read(Path path) throws IOException {
        return new Doc(Files.readAllLines(path));
    }

    List<String> headings() {
        return new ArrayList<>(sentences.keySet());
    }

    List<String> under(String wanted) {
        return sentences.getOrDefault(wanted, List.of());
    }

    private void read(String row) {
        if (row.startsWith("```")) {
            inTable = !inTable;
        } else if (row.startsWith("#") && !inTable) {
            heading = row.replaceFirst("^#+ ", "");
            sentences.put(heading, new ArrayList<>());
        } else if (inTable || row.startsWith("- ")) {
            add(row.replaceFirst("^(- | +)", ""));
        } else if (!row.startsWith("Ahead of the calls")) {
            addParagraph(row);
        }
    }

    /** A promise begins with the call as it is written in Java, which is no sentence. */
    private void addParagraph(String row) {
        String text = heading.startsWith("Promise") ? row.replaceFirst("^`[^`]*`: ", "") : row;
        for (String sentence : text.split("(?<=\\.) (?=[A-Z`])")) {
            add(sentence);
        }
    }

    private void add(String sentence) {
        if (!sentence.isEmpty()) {
            sentences.get(heading).add(sentence.replace("`", ""));
        }
    }
}
