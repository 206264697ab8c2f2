import java.io.IOException;
import java.lang.reflect.Constructor;
import java.lang.reflect.Field;
import java.lang.reflect.InvocationTargetException;
import java.lang.reflect.Member;
import java.lang.reflect.Method;
import java.lang.reflect.Modifier;
import java.nio.file.Files;
import java.nio.file.Path;
import java.util.ArrayList;
import java.util.List;
import java.util.regex.Matcher;
import java.util.regex.Pattern;

/** What an object is for, and the public face, word for word as the document tells it. */
final class FaceEdgesTest {
    private static final Path SOURCE = Path.of("src/main/java/BlindHunts.java");
    private static final Pattern SECTION = Pattern.compile("Ahead of the calls (.*) the interface says: (---- .*)\\.");
    private static final int CALLS = 512;

    private FaceEdgesTest() {
    }

    public static void main(String[] args) throws IllegalAccessException, InvocationTargetException {
        Edges.run(FaceEdgesTest.class);
    }

    private static List<String> source() throws IOException {
        List<String> lines = new ArrayList<>();
        for (String line : Files.readAllLines(SOURCE)) {
            lines.add(line.strip());
        }
        return lines;
    }

    private static long standing(List<String> lines, String want) {
        return lines.stream().filter(want::equals).count();
    }

    private static int unhidden(Member... members) {
        int found = 0;
        for (Member member : members) {
            found += Modifier.isPrivate(member.getModifiers()) ? 0 : 1;
        }
        return found;
    }

    // ---- what it is

    @Of(promise = 0, says = "An object is used for at most 512 calls after it has been made")
    static void roundsUpToTheLastCall() {
        BlindHunts x = new BlindHunts();
        x.place(0);
        x.believe(1);
        for (int call = 3; call < CALLS; call++) {
            Due.is("check(0, 0), call " + call, x.check(0, 0), 1);
        }
        Due.is("count(4), call 512", x.count(4), CALLS - 3);
    }

    @Of(promise = 0, says = "An object is used for at most 512 calls after it has been made")
    static void settingsUpToTheLastCall() {
        BlindHunts x = Given.complete(3);
        int made = 3 + 3;
        int kind = 0;
        // A restless hare and a leaping one need different numbers of rounds, so each call has to look anew.
        while (made + 2 <= CALLS) {
            Due.is("set(0, " + (2 - kind) + ")", x.set(0, 2 - kind), kind);
            kind = 2 - kind;
            Due.is("behind(1, 0, -1)", x.behind(1, 0, -1), kind == 2 ? 7 : 6);
            made += 2;
        }
        Due.is("calls", made, CALLS);
    }

    @Of(promise = 0, says = "An object is used for at most 512 calls after it has been made")
    static void typingUpToTheLastCall() {
        BlindHunts x = new BlindHunts();
        for (int call = 1; call < CALLS; call++) {
            Due.is("type(';'), call " + call, x.type(';'), call <= 60 ? call : BlindHunts.LIMIT_REACHED);
        }
        Due.is("clearText(), call 512", x.clearText(), 60);
    }

    // ---- the public face

    @Of(promise = 0, says = "public final class BlindHunts {")
    static void theClassIsPublicAndFinal() throws IOException {
        Due.is("the line of the class", standing(source(), "public final class BlindHunts {"), 1);
        Due.is("its modifiers", BlindHunts.class.getModifiers(), Modifier.PUBLIC | Modifier.FINAL);
        Due.is("it is of no package", BlindHunts.class.getPackageName().length(), 0);
    }

    @Of(promise = 0, says = {"public static final int INVALID_ARGUMENT = -1000001;", "public static final int NOT_POSSIBLE = -1000002;",
        "public static final int LIMIT_REACHED = -1000003;", "public static final int NOT_FOUND = -1000004;"})
    static void theConstantsAreThoseOfTheDocument() throws IOException {
        int constants = 0;
        for (String line : Document.face()) {
            if (line.contains(" = ")) {
                constants++;
                Due.is(line, standing(source(), line), 1);
            }
        }
        Due.is("constants of the document", constants, 4);
        Due.is("fields that are not private", unhidden(BlindHunts.class.getDeclaredFields()), constants);
    }

    @Of(promise = 0, says = "public BlindHunts();")
    static void theConstructorTakesNothing() throws IOException {
        Constructor<?>[] constructors = BlindHunts.class.getDeclaredConstructors();
        Due.is("constructors", constructors.length, 1);
        Due.is("its arguments", constructors[0].getParameterCount(), 0);
        Due.is("its line", standing(source(), "public BlindHunts() {"), 1);
    }

    @Of(promise = 0, says = {"public int place(int color);", "public long ways(int moves, int place);", "public int play();"})
    static void theCallsAreThoseOfTheDocument() throws IOException {
        int calls = 0;
        for (String line : Document.face()) {
            if (line.endsWith(");") && !line.equals("public BlindHunts();")) {
                calls++;
                Due.is(line, standing(source(), line.replace(";", " {")), 1);
            }
        }
        Due.is("calls of the document", calls, 22);
        Due.is("methods that are not private", unhidden(BlindHunts.class.getDeclaredMethods()), calls);
    }

    @Of(promise = 0, says = "All numbers are whole numbers")
    static void allNumbersAreWhole() {
        for (Method method : BlindHunts.class.getDeclaredMethods()) {
            if (Modifier.isPublic(method.getModifiers())) {
                boolean wide = method.getReturnType() == long.class;
                Due.is(method.getName() + " returns a whole number", wide || method.getReturnType() == int.class ? 1 : 0, 1);
                for (Class<?> type : method.getParameterTypes()) {
                    Due.is(method.getName() + " takes whole numbers", type == int.class ? 1 : 0, 1);
                }
            }
        }
        for (Field field : BlindHunts.class.getFields()) {
            Due.is(field.getName() + " is a whole number", field.getType() == int.class ? 1 : 0, 1);
        }
    }

    @Of(promise = 0, says = {"Ahead of the calls `place`, `road`, `shut`, `set` the interface says: ---- the country",
        "Ahead of the calls `believe`, `check`, `placeOf`, `roundOf` the interface says: ---- rounds",
        "Ahead of the calls `behind`, `sure`, `deaf`, `memory`, `beliefs`, `dangers`, `ways`, `met`, `count`, `undo` the interface says: ---- what would be",
        "Ahead of the calls `type`, `clearText`, `fault`, `play` the interface says: ---- texts"})
    static void theInterfaceSaysWhatComesNext() throws IOException {
        List<String> want = new ArrayList<>();
        Matcher sections = SECTION.matcher(Document.part("Terms"));
        while (sections.find()) {
            want.add("// " + sections.group(2));
            want.addAll(List.of(sections.group(1).replace("`", "").split(", ")));
        }
        List<String> got = new ArrayList<>();
        for (String line : source()) {
            if (want.contains(line)) {
                got.add(line);
            } else if (line.startsWith("public ") && line.endsWith(") {") && !line.startsWith("public BlindHunts(")) {
                got.add(line.substring(line.lastIndexOf(' ', line.indexOf('(')) + 1, line.indexOf('(')));
            }
        }
        Due.is("lines of the document", want.size(), 22 + 4);
        Due.is("the interface is " + got + ", due is " + want, got.equals(want) ? 1 : 0, 1);
    }
}
