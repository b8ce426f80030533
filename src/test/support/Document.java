import java.io.IOException;
import java.nio.file.Files;
import java.nio.file.Path;
import java.util.LinkedHashMap;
import java.util.Map;

/** The document's sections and which of their lines have been tested; where the document is missing, all are. */
final class Document {
    private static final Path PATH = Path.of("..", "shared", "DOC.md");
    private final Map<String, Map<String, Boolean>> sections = new LinkedHashMap<>();

    static Document read() {
        Document document = new Document();
        try {
            Map<String, Boolean> lines = new LinkedHashMap<>();
            for (String line : Files.readAllLines(PATH)) {
                if (line.startsWith("## ")) {
                    lines = new LinkedHashMap<>();
                    document.sections.put(line.substring(3).split(":")[0], lines);
                } else if (!line.isBlank()) {
                    lines.put(line, false);
                }
            }
        } catch (IOException e) {
            System.out.println("no " + PATH + " here: the tests' sentences are not compared with it");
        }
        return document;
    }

    /** Notes that the sentence has a test, and tells whether the section has it. */
    boolean tested(String section, String sentence) {
        boolean found = sections.isEmpty();
        for (Map.Entry<String, Boolean> line : sections.getOrDefault(section, Map.of()).entrySet()) {
            if (line.getKey().contains(sentence)) {
                line.setValue(true);
                found = true;
            }
        }
        return found;
    }

    String untestedPromises() {
        StringBuilder untested = new StringBuilder();
        for (Map.Entry<String, Map<String, Boolean>> section : sections.entrySet()) {
            for (Map.Entry<String, Boolean> line : section.getValue().entrySet()) {
                if (section.getKey().startsWith("Promise ") && !line.getValue()) {
                    untested.append("\n").append(section.getKey()).append(": ").append(line.getKey());
                }
            }
        }
        return untested.toString();
    }
}
