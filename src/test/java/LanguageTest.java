import com.sun.source.tree.ClassTree;
import com.sun.source.tree.CompilationUnitTree;
import com.sun.source.tree.LineMap;
import com.sun.source.tree.MethodInvocationTree;
import com.sun.source.tree.MethodTree;
import com.sun.source.tree.NewArrayTree;
import com.sun.source.tree.NewClassTree;
import com.sun.source.tree.Tree;
import com.sun.source.tree.VariableTree;
import com.sun.source.util.JavacTask;
import com.sun.source.util.SourcePositions;
import com.sun.source.util.TreePath;
import com.sun.source.util.TreePathScanner;
import com.sun.source.util.Trees;
import java.io.IOException;
import java.nio.file.Files;
import java.nio.file.Path;
import java.util.EnumSet;
import java.util.List;
import java.util.Map;
import java.util.Set;
import java.util.TreeMap;
import java.util.TreeSet;
import javax.lang.model.element.Element;
import javax.lang.model.element.Modifier;
import javax.lang.model.type.ArrayType;
import javax.lang.model.type.TypeKind;
import javax.lang.model.type.TypeMirror;
import javax.tools.JavaCompiler;
import javax.tools.StandardJavaFileManager;
import javax.tools.ToolProvider;

/** What LANGUAGE.md leaves, as far as the compiler's own tree of the class can tell it. */
public final class LanguageTest {
    private static final Path SOURCE = Path.of("src/main/java/BeltArms.java");
    private static final int MOST_DEEP = 8;
    private static final int MOST_LINES = 60;
    /** What the class uses; LANGUAGE.md leaves some more. */
    private static final Set<String> LIBRARY = Set.of("Object.<init>", "Math.max", "Math.min",
            "Math.abs", "Math.floorMod", "Long.bitCount", "System.arraycopy", "Arrays.fill");
    private static final Set<Tree.Kind> BARRED = EnumSet.of(Tree.Kind.THROW, Tree.Kind.TRY,
            Tree.Kind.SYNCHRONIZED, Tree.Kind.ASSERT, Tree.Kind.LAMBDA_EXPRESSION,
            Tree.Kind.MEMBER_REFERENCE, Tree.Kind.PACKAGE);
    private static int wrong = 0;

    public static void main(String[] args) throws IOException {
        signs();
        JavaCompiler compiler = ToolProvider.getSystemJavaCompiler();
        try (StandardJavaFileManager files = compiler.getStandardFileManager(null, null, null)) {
            JavacTask task = (JavacTask) compiler.getTask(null, files, null, List.of("-proc:none"),
                    null, files.getJavaFileObjects(SOURCE));
            CompilationUnitTree unit = task.parse().iterator().next();
            task.analyze();
            Scan scan = new Scan(Trees.instance(task), unit);
            scan.scan(unit, null);
            depth(scan.calls);
        }
        System.out.println(wrong == 0 ? "the language is as due" : wrong + " faults in the language");
        if (wrong != 0) {
            System.exit(1);
        }
    }

    private static void due(boolean right, String fault) {
        if (!right) {
            wrong++;
            System.out.println(fault);
        }
    }

    private static void signs() throws IOException {
        for (char c : Files.readString(SOURCE).toCharArray()) {
            due(c == '\n' || c >= 32 && c < 127, "the text has the sign " + (int) c);
        }
    }

    private static void depth(Map<String, Set<String>> calls) {
        int deepest = 0;
        for (String from : calls.keySet()) {
            deepest = Math.max(deepest, deep(calls, from, ""));
        }
        due(deepest <= MOST_DEEP, "calls go " + deepest + " deep");
        due(deepest > 1, "no calls were found");
    }

    /** How many calls stand open at most, the library's with them, once this one is made. */
    private static int deep(Map<String, Set<String>> calls, String name, String above) {
        String chain = above + " " + name;
        if ((above + " ").contains(" " + name + " ")) {
            due(false, "a call comes back to itself:" + chain);
            return 1;
        }
        int most = 0;
        for (String next : calls.getOrDefault(name, Set.of())) {
            most = Math.max(most, deep(calls, next, chain));
        }
        return most + 1;
    }

    private static final class Scan extends TreePathScanner<Void, Void> {
        /** By each method that calls: what it calls. */
        final Map<String, Set<String>> calls = new TreeMap<>();
        private final Trees trees;
        private final CompilationUnitTree unit;

        Scan(Trees trees, CompilationUnitTree unit) {
            this.trees = trees;
            this.unit = unit;
        }

        @Override
        public Void scan(Tree tree, Void none) {
            due(tree == null || !BARRED.contains(tree.getKind()), "not in the language: " + tree);
            return super.scan(tree, none);
        }

        @Override
        public Void visitMethodInvocation(MethodInvocationTree call, Void none) {
            called(trees.getElement(getCurrentPath()));
            return super.visitMethodInvocation(call, none);
        }

        @Override
        public Void visitNewClass(NewClassTree made, Void none) {
            due(made.getClassBody() == null, "a class without a name: " + made);
            madeWithTheObject(made);
            called(trees.getElement(getCurrentPath()));
            return super.visitNewClass(made, none);
        }

        @Override
        public Void visitNewArray(NewArrayTree made, Void none) {
            madeWithTheObject(made);
            return super.visitNewArray(made, none);
        }

        @Override
        public Void visitMethod(MethodTree method, Void none) {
            SourcePositions at = trees.getSourcePositions();
            LineMap lines = unit.getLineMap();
            long end = at.getEndPosition(unit, method);
            if (end >= 0) {
                long many = lines.getLineNumber(end)
                        - lines.getLineNumber(at.getStartPosition(unit, method)) + 1;
                due(many <= MOST_LINES, method.getName() + " has " + many + " lines");
            }
            due(method.getParameters().size() <= 7, method.getName() + " takes more than seven");
            return super.visitMethod(method, none);
        }

        @Override
        public Void visitVariable(VariableTree variable, Void none) {
            TypeMirror type = trees.getTypeMirror(getCurrentPath());
            TypeMirror inside = type instanceof ArrayType row ? row.getComponentType() : type;
            boolean own = inside.getKind() == TypeKind.DECLARED
                    && inside.toString().startsWith("BeltArms.");
            due(own || inside.getKind().isPrimitive(), "of another type: " + variable);
            Set<Modifier> signs = variable.getModifiers().getFlags();
            due(!signs.contains(Modifier.STATIC)
                    || signs.contains(Modifier.FINAL) && type.getKind().isPrimitive(),
                    "static, and no constant number: " + variable);
            return super.visitVariable(variable, none);
        }

        /** Calls make nothing, so a run cannot fill its room, however many calls it has. */
        private void madeWithTheObject(Tree made) {
            due(method() == null, "made by a call: " + made);
        }

        private void called(Element what) {
            Element owner = what.getEnclosingElement();
            String name = owner.getSimpleName() + "." + what.getSimpleName();
            boolean own = owner.toString().startsWith("BeltArms");
            due(own || LIBRARY.contains(name), "of the library: " + name);
            calls.computeIfAbsent(caller(), each -> new TreeSet<>()).add(name);
        }

        private MethodTree method() {
            for (TreePath path = getCurrentPath(); path != null; path = path.getParentPath()) {
                if (path.getLeaf() instanceof MethodTree method) {
                    return method;
                }
            }
            return null;
        }

        /** What stands in a field's own line is called by the constructor. */
        private String caller() {
            MethodTree method = method();
            TreePath path = getCurrentPath();
            while (!(path.getLeaf() instanceof ClassTree)) {
                path = path.getParentPath();
            }
            String owner = ((ClassTree) path.getLeaf()).getSimpleName().toString();
            return owner + "." + (method == null ? "<init>" : method.getName());
        }
    }
}
