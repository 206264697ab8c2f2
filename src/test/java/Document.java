import java.io.IOException;
import java.nio.file.Files;
import java.nio.file.Path;
import java.util.ArrayList;
import java.util.List;

/** The document, by its headings. */
final class Document {
    private static final Path FILE = Path.of("../shared/DOC.md");

    private Document() {
    }

    /** The part below a heading, its own line too; a promise is told by its number alone: "Promise 7". */
    static String part(String heading) throws IOException {
        StringBuilder part = new StringBuilder();
        boolean inside = false;
        for (String line : Files.readAllLines(FILE)) {
            if (line.startsWith("## ")) {
                inside = line.substring(3).replaceAll(":.*", "").equals(heading);
            }
            if (inside) {
                part.append(line).append('\n');
            }
        }
        return part.toString();
    }

    /** The lines of the public face. */
    static List<String> face() throws IOException {
        List<String> lines = new ArrayList<>();
        for (String line : part("The public face").split("\n")) {
            if (line.strip().startsWith("public ")) {
                lines.add(line.strip());
            }
        }
        return lines;
    }
}
