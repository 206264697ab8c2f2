import java.io.IOException;
import java.lang.reflect.Method;
import java.nio.file.DirectoryStream;
import java.nio.file.Files;
import java.nio.file.Path;
import java.util.ArrayList;
import java.util.LinkedHashMap;
import java.util.List;
import java.util.Map;

/** Compares the words that the tests of the boundary cases are of with the document: each stands there, and none is left out. */
final class SentencesTest {
    private static final Path DOCUMENT = Path.of("../shared/DOC.md");
    private static final Path TESTS = Path.of("src/test/java");
    private static final int PROMISES = 23;

    /** The parts of the document by their headings. */
    private final Map<String, String> parts = new LinkedHashMap<>();
    private final List<List<String>> quotes = new ArrayList<>();

    private SentencesTest() {
        for (int promise = 0; promise <= PROMISES; promise++) {
            quotes.add(new ArrayList<>());
        }
    }

    public static void main(String[] args) throws IOException, ClassNotFoundException {
        SentencesTest test = new SentencesTest();
        test.readDocument();
        test.readTests();
        for (int promise = 1; promise <= PROMISES; promise++) {
            Due.at("promise " + promise);
            test.comparePromise(promise);
        }
        Due.end("SentencesTest");
    }

    private void readDocument() throws IOException {
        String part = "";
        for (String line : Files.readAllLines(DOCUMENT)) {
            if (line.startsWith("## ")) {
                part = line.substring(3).replaceAll(":.*", "");
            }
            parts.merge(part, line + "\n", String::concat);
        }
    }

    private void readTests() throws IOException, ClassNotFoundException {
        try (DirectoryStream<Path> files = Files.newDirectoryStream(TESTS, "*EdgesTest.java")) {
            for (Path file : files) {
                String name = file.getFileName().toString();
                for (Method test : Edges.testsOf(Class.forName(name.substring(0, name.indexOf('.'))))) {
                    Of of = test.getAnnotation(Of.class);
                    for (String words : of.says()) {
                        quote(test.getName(), of.promise(), words);
                    }
                }
            }
        }
    }

    private void quote(String test, int promise, String words) {
        boolean there = part(promise).contains(words);
        boolean inTerms = parts.get("Terms").contains(words);
        // A round of a text is one by what check tells.
        boolean inCheck = promise == 22 && part(7).contains(words) || promise == 23 && part(7).contains(words);
        Due.is(test + " is of words of the document: " + words, there || inTerms || inCheck ? 1 : 0, 1);
        if (there) {
            quotes.get(promise).add(words);
        }
    }

    private String part(int promise) {
        return parts.getOrDefault("Promise " + promise, "");
    }

    private void comparePromise(int promise) {
        List<String> clauses = clausesOf(part(promise));
        Due.is("it has clauses", clauses.isEmpty() ? 0 : 1, 1);
        for (String clause : clauses) {
            boolean tested = false;
            for (String words : quotes.get(promise)) {
                tested |= words.contains(clause) || clause.contains(words);
            }
            Due.is("a test is of: " + clause, tested ? 1 : 0, 1);
        }
    }

    private static List<String> clausesOf(String part) {
        List<String> clauses = new ArrayList<>();
        for (String line : part.split("\n")) {
            String text = line.replaceAll("^## .*", "").replaceAll("^- ", "").replaceAll("^`[^`]*\\)`: ", "");
            for (String clause : text.split("; |\\. |\\.$")) {
                if (!clause.isBlank()) {
                    clauses.add(clause.strip());
                }
            }
        }
        return clauses;
    }
}
