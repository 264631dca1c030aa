import java.io.IOException;
import java.nio.file.Files;
import java.nio.file.Path;
import java.util.ArrayList;
import java.util.LinkedHashSet;
import java.util.List;
import java.util.Set;

/** The sentences of the document, each with its place: a method of the face, or "Description". */
final class Document {
    private static final Path FILE = Path.of("..", "shared", "DOC.md");

    private final Set<String> all = new LinkedHashSet<>();
    private final Set<String> boundaries = new LinkedHashSet<>();

    private Document(List<String> lines) {
        String place = "";
        for (String line : lines) {
            String words = line.trim();
            if (words.startsWith("#")) {
                place = words.replaceAll("^#+ *(Promise [0-9]+: *)?", "").replace("A new object", "Doublecoat");
            } else if (words.startsWith("== ") || words.isEmpty()) {
                continue;
            } else if (place.equals("Description") || place.equals("What it is")) {
                addSentences(place, words);
            } else {
                add(place, words, isBoundary(words));
            }
        }
    }

    /** Without the document nothing can be said of it. */
    static Document read() throws IOException {
        return new Document(Files.exists(FILE) ? Files.readAllLines(FILE) : new ArrayList<>());
    }

    boolean isThere() {
        return !all.isEmpty();
    }

    /** The quotes that the document does not have. */
    List<String> misquoted(Set<String> quotes) {
        List<String> found = new ArrayList<>(quotes);
        found.removeAll(all);
        return found;
    }

    /** The sentences that name a boundary case, and that nothing quotes. */
    List<String> forgotten(Set<String> quotes) {
        List<String> found = new ArrayList<>(boundaries);
        found.removeAll(quotes);
        return found;
    }

    private void addSentences(String place, String words) {
        for (String sentence : words.split("(?<=\\.|\\.\\))\\s+")) {
            boolean heading = sentence.startsWith("The constructor and the methods follow");
            add(place, sentence, place.equals("Description") && !heading || sentence.contains("512"));
        }
    }

    private void add(String place, String words, boolean boundary) {
        all.add(place + ": " + words);
        if (boundary) {
            boundaries.add(place + ": " + words);
        }
    }

    private static boolean isBoundary(String words) {
        boolean plain = words.equals("Returns that.") || words.equals("Returns d.");
        return words.startsWith("Throws ") || words.startsWith("- `what`") || words.startsWith("Returns ") && !plain
                || words.startsWith("Creates ") || words.startsWith("Computes ");
    }
}
