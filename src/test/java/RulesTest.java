import com.sun.source.tree.ClassTree;
import com.sun.source.tree.CompilationUnitTree;
import com.sun.source.tree.MethodInvocationTree;
import com.sun.source.tree.MethodTree;
import com.sun.source.tree.NewClassTree;
import com.sun.source.tree.Tree;
import com.sun.source.tree.VariableTree;
import com.sun.source.util.JavacTask;
import com.sun.source.util.TreeScanner;
import java.io.IOException;
import java.lang.reflect.Constructor;
import java.lang.reflect.Field;
import java.lang.reflect.Method;
import java.lang.reflect.Modifier;
import java.nio.file.Path;
import java.util.ArrayList;
import java.util.EnumSet;
import java.util.HashMap;
import java.util.HashSet;
import java.util.List;
import java.util.Map;
import java.util.Set;
import java.util.TreeSet;
import javax.tools.JavaCompiler;
import javax.tools.StandardJavaFileManager;
import javax.tools.ToolProvider;

/** Looks through the source of the class for what LANGUAGE.md does not allow, as far as it can be seen from its form. */
final class RulesTest {
    private static final Path SOURCE = Path.of("src/main/java/BlindHunts.java");
    private static final Set<Tree.Kind> FORBIDDEN = EnumSet.of(
            Tree.Kind.THROW, Tree.Kind.TRY, Tree.Kind.CATCH, Tree.Kind.SYNCHRONIZED, Tree.Kind.ASSERT, Tree.Kind.IMPORT,
            Tree.Kind.PACKAGE, Tree.Kind.LAMBDA_EXPRESSION, Tree.Kind.MEMBER_REFERENCE, Tree.Kind.ANNOTATION);
    private static final Set<String> LIBRARY = Set.of("Integer.bitCount", "Math.min", "Math.max");
    private static final String FACE = "BEHIND(int, int, int) int;BELIEFS(int) int;BELIEVE(int) int;CHECK(int, int) int;"
            + "CLEARTEXT() int;COUNT(int) int;DANGERS(int) int;DEAF(int) int;FAULT(int) int;MEMORY(int) int;"
            + "MET(int, int, int) long;PLACE(int) int;PLACEOF(int, int) int;PLAY() int;ROAD(int, int) int;"
            + "ROUNDOF(int, int) int;SET(int, int) int;SHUT(int, int, int) int;SURE(int, int) int;TYPE(int) int;"
            + "UNDO() int;WAYS(int, int) long;";

    private final Map<String, Set<String>> calls = new HashMap<>();
    private int classes;

    private RulesTest() {
    }

    public static void main(String[] args) throws IOException {
        Due.at("LANGUAGE.md");
        face();
        staticState();
        new RulesTest().source();
        Due.end("RulesTest");
    }

    private static void face() {
        TreeSet<String> methods = new TreeSet<>();
        for (Method method : BlindHunts.class.getDeclaredMethods()) {
            if (!Modifier.isPrivate(method.getModifiers())) {
                StringBuilder row = new StringBuilder(method.getName().toUpperCase());
                List<String> types = new ArrayList<>();
                for (Class<?> type : method.getParameterTypes()) {
                    types.add(type.getName());
                }
                row.append('(').append(String.join(", ", types)).append(") ").append(method.getReturnType().getName());
                methods.add(row.append(';').toString());
                Due.is("rule 1: " + method.getName() + " is public alone", method.getModifiers(), Modifier.PUBLIC);
            }
        }
        Due.is("rule 1: the face is " + String.join("", methods), String.join("", methods).equals(FACE) ? 1 : 0, 1);
        Constructor<?>[] constructors = BlindHunts.class.getDeclaredConstructors();
        Due.is("rule 1: constructors", constructors.length, 1);
        Due.is("rule 1: its arguments", constructors[0].getParameterCount(), 0);
        Due.is("rule 1: public and final", BlindHunts.class.getModifiers(), Modifier.PUBLIC | Modifier.FINAL);
        int constants = 0;
        for (Field field : BlindHunts.class.getDeclaredFields()) {
            constants += Modifier.isPrivate(field.getModifiers()) ? 0 : 1;
        }
        Due.is("rule 1: constants", constants, 4);
    }

    private static void staticState() {
        List<Class<?>> all = new ArrayList<>(List.of(BlindHunts.class.getDeclaredClasses()));
        all.add(BlindHunts.class);
        for (Class<?> type : all) {
            int fields = 0;
            for (Field field : type.getDeclaredFields()) {
                boolean isStatic = Modifier.isStatic(field.getModifiers());
                fields += isStatic ? 0 : 1;
                boolean constant = Modifier.isFinal(field.getModifiers()) && !field.getType().isArray();
                Due.is("rule 5: " + field.getName() + " is no static state", isStatic && !constant ? 1 : 0, 0);
            }
            Due.is("rule 11: fields of " + type.getName() + ", " + fields, fields > 20 ? 1 : 0, 0);
            boolean inside = type != BlindHunts.class;
            Due.is("rule 2: " + type.getName() + " is static", !inside || Modifier.isStatic(type.getModifiers()) ? 1 : 0, 1);
            Due.is("rule 1: " + type.getName() + " is not public", inside && Modifier.isPublic(type.getModifiers()) ? 1 : 0, 0);
        }
    }

    private void source() throws IOException {
        JavaCompiler compiler = ToolProvider.getSystemJavaCompiler();
        try (StandardJavaFileManager files = compiler.getStandardFileManager(null, null, null)) {
            JavacTask task = (JavacTask) compiler.getTask(null, files, null, null, null, files.getJavaFileObjects(SOURCE));
            for (CompilationUnitTree unit : task.parse()) {
                new Look(unit).scan(unit, null);
            }
        }
        Due.is("rule 11: classes, " + classes, classes > 12 ? 1 : 0, 0);
        for (String method : calls.keySet()) {
            int depth = depth(method, new HashSet<>());
            Due.is("rule 11: calls below " + method + ", " + depth, depth > 8 ? 1 : 0, 0);
        }
    }

    /** Methods are told apart by their names alone, so this is no less than the true depth. */
    private int depth(String method, Set<String> above) {
        if (!above.add(method)) {
            Due.is("rule 8: " + method + " calls itself", 1, 0);
            return 0;
        }
        int most = 0;
        for (String called : calls.getOrDefault(method, Set.of())) {
            most = Math.max(most, depth(called, above));
        }
        above.remove(method);
        return most + 1;
    }

    private final class Look extends TreeScanner<Void, Void> {
        private final CompilationUnitTree unit;
        private final Set<String> publicNames = new HashSet<>();
        private String method = "";

        Look(CompilationUnitTree unit) {
            this.unit = unit;
            for (String row : FACE.split(";")) {
                publicNames.add(row.substring(0, row.indexOf('(')));
            }
        }

        private String at(String text, Tree tree) {
            String first = tree.toString().strip().split("\n")[0];
            return text + ": " + first;
        }

        @Override
        public Void scan(Tree tree, Void unused) {
            if (tree != null && FORBIDDEN.contains(tree.getKind())) {
                Due.is(at("rules 2, 4 and 6, " + tree.getKind(), tree), 1, 0);
            }
            return super.scan(tree, unused);
        }

        @Override
        public Void visitClass(ClassTree tree, Void unused) {
            classes++;
            for (Tree member : tree.getMembers()) {
                Due.is(at("rule 5: no block", member), member.getKind() == Tree.Kind.BLOCK ? 1 : 0, 0);
            }
            return super.visitClass(tree, unused);
        }

        @Override
        public Void visitMethod(MethodTree tree, Void unused) {
            String name = tree.getName().toString();
            boolean isPublic = tree.getModifiers().getFlags().contains(javax.lang.model.element.Modifier.PUBLIC);
            Due.is("rule 1: " + name + " bears no public name", !isPublic && publicNames.contains(name.toUpperCase()) ? 1 : 0, 0);
            Due.is("rule 11: parameters of " + name, tree.getParameters().size() > 7 ? 1 : 0, 0);
            int lines = tree.toString().split("\n").length;
            Due.is("rule 11: lines of " + name + ", " + lines, lines > 60 ? 1 : 0, 0);
            method = name;
            calls.computeIfAbsent(name, k -> new TreeSet<>());
            return super.visitMethod(tree, unused);
        }

        @Override
        public Void visitMethodInvocation(MethodInvocationTree tree, Void unused) {
            String called = tree.getMethodSelect().toString();
            if (Character.isUpperCase(called.charAt(0)) && !called.startsWith("State.")) {
                Due.is("rule 4: " + called + " is of the library's part", LIBRARY.contains(called) ? 1 : 0, 1);
            }
            if (!called.equals("super")) {
                calls.computeIfAbsent(method, k -> new TreeSet<>()).add(called.substring(called.lastIndexOf('.') + 1));
            }
            return super.visitMethodInvocation(tree, unused);
        }

        @Override
        public Void visitNewClass(NewClassTree tree, Void unused) {
            Due.is(at("rule 2: no class without a name", tree), tree.getClassBody() == null ? 0 : 1, 0);
            return super.visitNewClass(tree, unused);
        }

        @Override
        public Void visitVariable(VariableTree tree, Void unused) {
            Set<String> allowed = Set.of("int", "int[]", "int[][]", "long", "long[]", "boolean", "boolean[]", "char", "char[]",
                    "State", "State[]", "Moves", "Hunt", "Walks", "RoundText");
            Due.is(at("rule 3: a type that may stand", tree), allowed.contains(String.valueOf(tree.getType())) ? 1 : 0, 1);
            return super.visitVariable(tree, unused);
        }
    }
}
