import com.sun.source.tree.ClassTree;
import com.sun.source.tree.CompilationUnitTree;
import com.sun.source.tree.MethodInvocationTree;
import com.sun.source.tree.MethodTree;
import com.sun.source.tree.NewArrayTree;
import com.sun.source.tree.NewClassTree;
import com.sun.source.tree.Tree;
import com.sun.source.tree.VariableTree;
import com.sun.source.util.JavacTask;
import com.sun.source.util.TreeScanner;
import java.io.IOException;
import java.lang.reflect.Array;
import java.lang.reflect.Field;
import java.lang.reflect.Method;
import java.lang.reflect.Modifier;
import java.nio.file.Path;
import java.util.ArrayList;
import java.util.EnumSet;
import java.util.HashMap;
import java.util.HashSet;
import java.util.List;
import java.util.Map;
import java.util.Set;
import java.util.TreeSet;
import javax.tools.JavaCompiler;
import javax.tools.StandardJavaFileManager;
import javax.tools.ToolProvider;

/**
 * Looks through the source of the class for what LANGUAGE.md does not allow, as far as it can be seen from its form;
 * FaceEdgesTest looks at the members that are not private.
 */
final class RulesTest {
    private static final Path SOURCE = Path.of("src/main/java/BlindHunts.java");
    private static final Set<Tree.Kind> FORBIDDEN = EnumSet.of(
            Tree.Kind.THROW, Tree.Kind.TRY, Tree.Kind.CATCH, Tree.Kind.SYNCHRONIZED, Tree.Kind.ASSERT, Tree.Kind.IMPORT,
            Tree.Kind.PACKAGE, Tree.Kind.LAMBDA_EXPRESSION, Tree.Kind.MEMBER_REFERENCE, Tree.Kind.ANNOTATION);
    private static final Set<String> LIBRARY = Set.of("Integer.bitCount", "Math.min", "Math.max");
    /** All that one object makes, which is small enough for hundreds of objects in one room. */
    private static final int MOST_OBJECTS = 100;
    private static final int MOST_ELEMENTS = 2500;

    private final Map<String, Set<String>> calls = new HashMap<>();
    private int classes;

    private RulesTest() {
    }

    public static void main(String[] args) throws IOException, IllegalAccessException {
        Due.at("LANGUAGE.md");
        staticState();
        room();
        new RulesTest().source();
        Due.end("RulesTest");
    }

    private static void staticState() {
        List<Class<?>> all = new ArrayList<>(List.of(BlindHunts.class.getDeclaredClasses()));
        all.add(BlindHunts.class);
        for (Class<?> type : all) {
            int fields = 0;
            for (Field field : type.getDeclaredFields()) {
                boolean isStatic = Modifier.isStatic(field.getModifiers());
                fields += isStatic ? 0 : 1;
                boolean constant = Modifier.isFinal(field.getModifiers()) && !field.getType().isArray();
                Due.is("rule 5: " + field.getName() + " is no static state", isStatic && !constant ? 1 : 0, 0);
            }
            Due.is("rule 11: fields of " + type.getName() + ", " + fields, fields > 20 ? 1 : 0, 0);
            boolean inside = type != BlindHunts.class;
            Due.is("rule 2: " + type.getName() + " is static", !inside || Modifier.isStatic(type.getModifiers()) ? 1 : 0, 1);
            Due.is("rule 1: " + type.getName() + " is not public", inside && Modifier.isPublic(type.getModifiers()) ? 1 : 0, 0);
        }
    }

    private static void room() throws IllegalAccessException {
        List<Object> found = new ArrayList<>(List.of(Given.busy()));
        int elements = 0;
        for (int i = 0; i < found.size(); i++) {
            Object object = found.get(i);
            List<Object> parts = object.getClass().isArray() ? elementsOf(object) : fieldsOf(object);
            elements += parts.size();
            for (Object part : parts) {
                boolean number = part == null || part instanceof Number || part instanceof Boolean || part instanceof Character;
                if (!number && !found.contains(part)) {
                    found.add(part);
                }
            }
        }
        Due.is("room: objects and arrays, " + found.size(), found.size() > MOST_OBJECTS ? 1 : 0, 0);
        Due.is("room: fields and elements, " + elements, elements > MOST_ELEMENTS ? 1 : 0, 0);
    }

    private static List<Object> elementsOf(Object array) {
        List<Object> parts = new ArrayList<>();
        for (int i = 0; i < Array.getLength(array); i++) {
            parts.add(Array.get(array, i));
        }
        return parts;
    }

    private static List<Object> fieldsOf(Object object) throws IllegalAccessException {
        List<Object> parts = new ArrayList<>();
        for (Field field : object.getClass().getDeclaredFields()) {
            if (!Modifier.isStatic(field.getModifiers())) {
                field.setAccessible(true);
                parts.add(field.get(object));
            }
        }
        return parts;
    }

    private void source() throws IOException {
        JavaCompiler compiler = ToolProvider.getSystemJavaCompiler();
        try (StandardJavaFileManager files = compiler.getStandardFileManager(null, null, null)) {
            JavacTask task = (JavacTask) compiler.getTask(null, files, null, null, null, files.getJavaFileObjects(SOURCE));
            for (CompilationUnitTree unit : task.parse()) {
                new Look().scan(unit, null);
            }
        }
        Due.is("rule 11: classes, " + classes, classes > 12 ? 1 : 0, 0);
        for (String method : calls.keySet()) {
            int depth = depth(method, new HashSet<>());
            Due.is("rule 11: calls below " + method + ", " + depth, depth > 8 ? 1 : 0, 0);
        }
    }

    /** Methods are told apart by their names alone, so this is no less than the true depth. */
    private int depth(String method, Set<String> above) {
        if (!above.add(method)) {
            Due.is("rule 8: " + method + " calls itself", 1, 0);
            return 0;
        }
        int most = 0;
        for (String called : calls.getOrDefault(method, Set.of())) {
            most = Math.max(most, depth(called, above));
        }
        above.remove(method);
        return most + 1;
    }

    private final class Look extends TreeScanner<Void, Void> {
        private final Set<String> publicNames = new HashSet<>();
        private String method = "";

        Look() {
            for (Method method : BlindHunts.class.getDeclaredMethods()) {
                if (Modifier.isPublic(method.getModifiers())) {
                    publicNames.add(method.getName());
                }
            }
        }

        private String at(String text, Tree tree) {
            String first = tree.toString().strip().split("\n")[0];
            return text + ": " + first;
        }

        @Override
        public Void scan(Tree tree, Void unused) {
            if (tree != null && FORBIDDEN.contains(tree.getKind())) {
                Due.is(at("rules 2, 4 and 6, " + tree.getKind(), tree), 1, 0);
            }
            return super.scan(tree, unused);
        }

        @Override
        public Void visitClass(ClassTree tree, Void unused) {
            classes++;
            for (Tree member : tree.getMembers()) {
                Due.is(at("rule 5: no block", member), member.getKind() == Tree.Kind.BLOCK ? 1 : 0, 0);
            }
            return super.visitClass(tree, unused);
        }

        @Override
        public Void visitMethod(MethodTree tree, Void unused) {
            String name = tree.getName().toString();
            boolean isPublic = tree.getModifiers().getFlags().contains(javax.lang.model.element.Modifier.PUBLIC);
            Due.is("rule 1: " + name + " bears no public name", !isPublic && publicNames.contains(name) ? 1 : 0, 0);
            Due.is("rule 11: parameters of " + name, tree.getParameters().size() > 7 ? 1 : 0, 0);
            int lines = tree.toString().split("\n").length;
            Due.is("rule 11: lines of " + name + ", " + lines, lines > 60 ? 1 : 0, 0);
            method = name;
            calls.computeIfAbsent(name, k -> new TreeSet<>());
            super.visitMethod(tree, unused);
            method = "";
            return null;
        }

        @Override
        public Void visitMethodInvocation(MethodInvocationTree tree, Void unused) {
            String called = tree.getMethodSelect().toString();
            if (Character.isUpperCase(called.charAt(0)) && !called.startsWith("State.")) {
                Due.is("rule 4: " + called + " is of the library's part", LIBRARY.contains(called) ? 1 : 0, 1);
            }
            if (!called.equals("super")) {
                calls.computeIfAbsent(method, k -> new TreeSet<>()).add(called.substring(called.lastIndexOf('.') + 1));
            }
            return super.visitMethodInvocation(tree, unused);
        }

        @Override
        public Void visitNewClass(NewClassTree tree, Void unused) {
            Due.is(at("rule 2: no class without a name", tree), tree.getClassBody() == null ? 0 : 1, 0);
            Due.is(at("rule 12: a call makes no object", tree), isCall() ? 1 : 0, 0);
            return super.visitNewClass(tree, unused);
        }

        @Override
        public Void visitNewArray(NewArrayTree tree, Void unused) {
            Due.is(at("rule 12: a call makes no array", tree), isCall() ? 1 : 0, 0);
            return super.visitNewArray(tree, unused);
        }

        /** Not a constructor, nor a field. */
        private boolean isCall() {
            return !method.isEmpty() && !method.equals("<init>");
        }

        @Override
        public Void visitVariable(VariableTree tree, Void unused) {
            Set<String> allowed = Set.of("int", "int[]", "int[][]", "long", "long[]", "boolean", "boolean[]", "char", "char[]",
                    "State", "State[]", "Moves", "Hunt", "Walks", "RoundText");
            Due.is(at("rule 3: a type that may stand", tree), allowed.contains(String.valueOf(tree.getType())) ? 1 : 0, 1);
            return super.visitVariable(tree, unused);
        }
    }
}
