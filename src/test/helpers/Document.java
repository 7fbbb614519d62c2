import java.io.IOException;
import java.nio.charset.StandardCharsets;
import java.nio.file.Files;
import java.nio.file.Path;
import java.util.ArrayList;
import java.util.LinkedHashMap;
import java.util.List;
import java.util.Map;

/** The document, as its places: what stands under each heading, and the paragraphs that have a name of their own. */
final class Document {
    private static final Path FILE = Path.of("../shared/DOC.md");
    private static final List<String> NAMED_PARAGRAPHS = List.of("CONVENTIONS", "The constants", "Ahead of the calls");

    /** The text of each place, by its name: "Hours", "Promise 4", "CONVENTIONS". */
    private final Map<String, StringBuilder> places = new LinkedHashMap<>();

    static Document read() throws IOException {
        Document document = new Document();
        String heading = "";
        for (String line : Files.readAllLines(FILE, StandardCharsets.UTF_8)) {
            if (line.startsWith("#")) {
                heading = line.replaceFirst("^#+ ", "").replaceFirst(":.*", "");
            } else if (!line.startsWith("```")) {
                document.places.computeIfAbsent(nameOf(line, heading), name -> new StringBuilder()).append(line).append('\n');
            }
        }
        return document;
    }

    private static String nameOf(String line, String heading) {
        for (String name : NAMED_PARAGRAPHS) {
            if (line.startsWith(name)) {
                return name;
            }
        }
        return heading;
    }

    List<String> names() {
        return new ArrayList<>(places.keySet());
    }

    /** Empty, if there is no such place. */
    String textOf(String name) {
        return places.getOrDefault(name, new StringBuilder()).toString();
    }
}
