import java.io.ByteArrayOutputStream;
import java.io.IOException;
import java.io.PrintStream;
import java.net.URL;
import java.net.URLClassLoader;
import java.nio.charset.StandardCharsets;
import java.nio.file.DirectoryStream;
import java.nio.file.Files;
import java.nio.file.Path;
import java.util.Comparator;
import java.util.List;
import java.util.stream.Stream;
import javax.tools.ToolProvider;

/** README.md: its hunt compiles and prints what is told there, and no call, constant or test is left out. */
final class ReadmeTest {
    private static final Path README = Path.of("README.md");
    private static final Path CLASS = Path.of("src/main/java/BlindHunts.java");
    private static final Path TESTS = Path.of("src/test/java");

    private final String text;

    private ReadmeTest() throws IOException {
        text = Files.readString(README).replace("\r\n", "\n");
    }

    public static void main(String[] args) throws IOException, ReflectiveOperationException {
        Due.at("README.md");
        ReadmeTest test = new ReadmeTest();
        test.hunt();
        test.names();
        Due.end("ReadmeTest");
    }

    /** What stands between the first fence of this kind and the next one. */
    private String block(String kind) {
        String fence = "```" + kind + "\n";
        int from = text.indexOf(fence) + fence.length();
        int end = text.indexOf("```\n", from);
        boolean there = text.contains(fence) && end >= from;
        Due.is("there is a block of " + kind, there ? 1 : 0, 1);
        return there ? text.substring(from, end) : "";
    }

    private void hunt() throws IOException, ReflectiveOperationException {
        Path work = Files.createTempDirectory("readme");
        try {
            Path source = Files.writeString(work.resolve("Hunt.java"), block("java"));
            int code = ToolProvider.getSystemJavaCompiler().run(null, null, null, "-d", work.toString(), CLASS.toString(), source.toString());
            Due.is("javac of the hunt", code, 0);
            if (code == 0) {
                String printed = run(work);
                Due.is("the hunt prints what is told, and not\n" + printed, printed.equals(block("text")) ? 1 : 0, 1);
            }
        } finally {
            remove(work);
        }
    }

    private static String run(Path classes) throws IOException, ReflectiveOperationException {
        PrintStream before = System.out;
        ByteArrayOutputStream printed = new ByteArrayOutputStream();
        // No parent but the platform's, so that the class is the one that was compiled for the hunt.
        URL[] urls = {classes.toUri().toURL()};
        try (URLClassLoader loader = new URLClassLoader(urls, ClassLoader.getPlatformClassLoader())) {
            System.setOut(new PrintStream(printed, true, StandardCharsets.UTF_8));
            loader.loadClass("Hunt").getMethod("main", String[].class).invoke(null, (Object) new String[0]);
        } finally {
            System.setOut(before);
        }
        return printed.toString(StandardCharsets.UTF_8).replace(System.lineSeparator(), "\n");
    }

    private static void remove(Path directory) throws IOException {
        try (Stream<Path> files = Files.walk(directory)) {
            List<Path> all = files.sorted(Comparator.reverseOrder()).toList();
            for (Path file : all) {
                Files.delete(file);
            }
        }
    }

    private void names() throws IOException {
        for (String line : Document.face()) {
            if (line.contains(" = ")) {
                isNamed(line.replaceAll(".* (\\w+) = .*", "$1"));
            } else if (line.endsWith(");") && !line.contains("BlindHunts(")) {
                isNamed(line.replaceAll("^public \\w+ (.*);$", "$1").replaceAll("(int|long) ", ""));
            }
        }
        try (DirectoryStream<Path> files = Files.newDirectoryStream(TESTS, "*Test.java")) {
            for (Path file : files) {
                isNamed(file.getFileName().toString().replace(".java", ""));
            }
        }
    }

    private void isNamed(String name) {
        Due.is("it names " + name, text.contains("`" + name + "`") ? 1 : 0, 1);
    }
}
