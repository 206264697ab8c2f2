import java.io.IOException;
import java.lang.reflect.Method;
import java.nio.file.DirectoryStream;
import java.nio.file.Files;
import java.nio.file.Path;
import java.util.ArrayList;
import java.util.Arrays;
import java.util.List;

/** Compares the words that the tests of the boundary cases are of with the document: each stands there, and none is left out. */
final class SentencesTest {
    private static final Path TESTS = Path.of("src/test/java");
    private static final int PROMISES = 23;

    /** The parts of the document: at 0 what stands ahead of the promises, then these by their numbers. */
    private final List<String> parts = new ArrayList<>();
    private final List<List<String>> quotes = new ArrayList<>();

    private SentencesTest() throws IOException {
        parts.add(Document.part("What it is") + Document.part("The public face") + Document.part("Terms"));
        quotes.add(new ArrayList<>());
        for (int promise = 1; promise <= PROMISES; promise++) {
            parts.add(Document.part("Promise " + promise));
            quotes.add(new ArrayList<>());
        }
    }

    public static void main(String[] args) throws IOException, ClassNotFoundException {
        SentencesTest test = new SentencesTest();
        test.readTests();
        Due.at("terms");
        compare(Document.part("Terms"), test.quotes.get(0));
        for (int promise = 1; promise <= PROMISES; promise++) {
            Due.at("promise " + promise);
            compare(test.parts.get(promise), test.quotes.get(promise));
        }
        Due.end("SentencesTest");
    }

    private void readTests() throws IOException, ClassNotFoundException {
        try (DirectoryStream<Path> files = Files.newDirectoryStream(TESTS, "*EdgesTest.java")) {
            for (Path file : files) {
                String name = file.getFileName().toString();
                for (Method test : Edges.testsOf(Class.forName(name.substring(0, name.indexOf('.'))))) {
                    Of of = test.getAnnotation(Of.class);
                    for (String words : of.says()) {
                        quote(test.getName(), of.promise(), words);
                    }
                }
            }
        }
    }

    private void quote(String test, int promise, String words) {
        boolean there = parts.get(promise).contains(words);
        boolean ahead = parts.get(0).contains(words);
        // A round of a text is one by what check tells.
        boolean inCheck = promise >= 22 && parts.get(7).contains(words);
        Due.is(test + " is of words of the document: " + words, there || ahead || inCheck ? 1 : 0, 1);
        if (there && promise > 0) {
            quotes.get(promise).add(words);
        }
        if (ahead) {
            quotes.get(0).add(words);
        }
    }

    private static void compare(String part, List<String> told) {
        boolean[] covered = new boolean[part.length()];
        for (String words : told) {
            for (int at = part.indexOf(words); at >= 0; at = part.indexOf(words, at + 1)) {
                Arrays.fill(covered, at, at + words.length(), true);
            }
        }
        List<String> clauses = clausesOf(part);
        Due.is("it has clauses", clauses.isEmpty() ? 0 : 1, 1);
        for (String clause : clauses) {
            int signs = 0;
            int from = part.indexOf(clause);
            for (int at = from; at < from + clause.length(); at++) {
                signs += covered[at] ? 1 : 0;
            }
            Due.is("tests are of the most of: " + clause, signs * 4 >= clause.length() * 3 ? 1 : 0, 1);
        }
    }

    private static List<String> clausesOf(String part) {
        List<String> clauses = new ArrayList<>();
        for (String line : part.split("\n")) {
            String text = line.replaceAll("^##+ .*", "").replaceAll("^- ", "").replaceAll("^`[^`]*\\)`: ", "");
            for (String clause : text.split("; |[.;]$|\\. ")) {
                if (!clause.isBlank()) {
                    clauses.add(clause.strip());
                }
            }
        }
        return clauses;
    }
}
