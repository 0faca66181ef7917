import com.sun.source.tree.ArrayAccessTree;
import com.sun.source.tree.AssignmentTree;
import com.sun.source.tree.BinaryTree;
import com.sun.source.tree.BlockTree;
import com.sun.source.tree.ClassTree;
import com.sun.source.tree.CompilationUnitTree;
import com.sun.source.tree.CompoundAssignmentTree;
import com.sun.source.tree.LineMap;
import com.sun.source.tree.LiteralTree;
import com.sun.source.tree.MethodInvocationTree;
import com.sun.source.tree.MethodTree;
import com.sun.source.tree.NewArrayTree;
import com.sun.source.tree.NewClassTree;
import com.sun.source.tree.Tree;
import com.sun.source.tree.UnaryTree;
import com.sun.source.tree.VariableTree;
import com.sun.source.util.JavacTask;
import com.sun.source.util.TreePath;
import com.sun.source.util.TreePathScanner;
import com.sun.source.util.Trees;
import java.io.IOException;
import java.nio.file.Files;
import java.nio.file.Path;
import java.util.ArrayList;
import java.util.EnumSet;
import java.util.HashMap;
import java.util.LinkedHashSet;
import java.util.List;
import java.util.Map;
import java.util.Set;
import javax.lang.model.element.Element;
import javax.lang.model.element.ElementKind;
import javax.lang.model.element.Modifier;
import javax.lang.model.type.TypeMirror;
import javax.tools.JavaCompiler;
import javax.tools.StandardJavaFileManager;
import javax.tools.ToolProvider;

/** The rules of LANGUAGE.md that the program's text can tell, as the compiler reads it. Run from the project's root. */
public final class LanguageTest {
    private static final Path PROGRAM = Path.of("src/main/java/TowersAndWaves.java");
    private static final int MOST_PARAMETERS = 7, MOST_LINES = 60, MOST_DEPTH = 8, MOST_CLASSES = 12, MOST_FIELDS = 20;

    private static final Set<Tree.Kind> RULED_OUT = EnumSet.of(Tree.Kind.THROW, Tree.Kind.TRY, Tree.Kind.SYNCHRONIZED,
        Tree.Kind.ASSERT, Tree.Kind.LAMBDA_EXPRESSION, Tree.Kind.MEMBER_REFERENCE, Tree.Kind.IMPORT, Tree.Kind.PACKAGE);
    /** Of what rules 3 and 4 leave, that which the program uses; whoever adds to it looks at these rules again. */
    private static final Set<String> TYPES = Set.of("int", "boolean", "int[]");
    private static final Set<String> LIBRARY =
        Set.of("Math.max", "Math.min", "Math.abs", "int[].clone", "Object.<init>");

    public static void main(String[] args) throws IOException {
        String text = Files.readString(PROGRAM);
        Check.that("rule 3: characters 0 to 255 alone", text.chars().allMatch(c -> c <= 255));
        Reader reader = read();
        Check.that("rule 11: some twelve classes: " + reader.classes, reader.classes <= MOST_CLASSES);
        callsStayShallow(reader.calls);
        recursionIsPrivate(reader);
        Check.end();
    }

    private static Reader read() throws IOException {
        JavaCompiler compiler = ToolProvider.getSystemJavaCompiler();
        try (StandardJavaFileManager files = compiler.getStandardFileManager(null, null, null)) {
            JavacTask task = (JavacTask) compiler.getTask(null, files, null, List.of("-proc:none"), null,
                files.getJavaFileObjects(PROGRAM));
            CompilationUnitTree unit = task.parse().iterator().next();
            task.analyze();
            Reader reader = new Reader(Trees.instance(task), unit);
            reader.scan(unit, null);
            return reader;
        }
    }

    /** Rule 11: the longest chain of calls, the library's last call and the face's method counted. */
    private static void callsStayShallow(Map<String, Set<String>> calls) {
        for (String method : calls.keySet()) {
            List<String> chain = longestFrom(method, calls, new ArrayList<>());
            Check.that("rule 11: eight calls deep at the most: " + chain, chain.size() <= MOST_DEPTH);
        }
    }

    /** A call of one that stands open already is recursion, which goes by rule 8. */
    private static List<String> longestFrom(String method, Map<String, Set<String>> calls, List<String> open) {
        open.add(method);
        List<String> longest = new ArrayList<>(open);
        for (String called : calls.getOrDefault(method, Set.of())) {
            List<String> chain = open.contains(called) ? open : longestFrom(called, calls, open);
            if (chain.size() > longest.size()) {
                longest = new ArrayList<>(chain);
            }
        }
        open.remove(open.size() - 1);
        return longest;
    }

    /** Rule 8: only private methods call one another in a ring. */
    private static void recursionIsPrivate(Reader reader) {
        for (String method : reader.calls.keySet()) {
            Set<String> reached = new LinkedHashSet<>(reader.calls.get(method));
            List<String> toFollow = new ArrayList<>(reached);
            for (int i = 0; i < toFollow.size(); i++) {
                for (String called : reader.calls.getOrDefault(toFollow.get(i), Set.of())) {
                    if (reached.add(called)) {
                        toFollow.add(called);
                    }
                }
            }
            Check.that("rule 8: what calls itself is private: " + method,
                !reached.contains(method) || reader.privates.contains(method));
        }
    }

    private static final class Reader extends TreePathScanner<Void, Void> {
        private final Trees trees;
        private final CompilationUnitTree unit;
        private final LineMap lines;
        final Map<String, Set<String>> calls = new HashMap<>();
        final Set<String> privates = new LinkedHashSet<>();
        int classes = 0;
        private String method = "";
        private boolean inConstructor = false;

        Reader(Trees trees, CompilationUnitTree unit) {
            this.trees = trees;
            this.unit = unit;
            this.lines = unit.getLineMap();
        }

        @Override
        public Void scan(Tree tree, Void none) {
            if (tree != null) {
                Tree.Kind kind = tree.getKind();
                Check.that("rules 2, 4 and 6: no " + kind + " " + at(tree), !RULED_OUT.contains(kind));
            }
            return super.scan(tree, none);
        }

        @Override
        public Void visitClass(ClassTree tree, Void none) {
            classes++;
            Tree around = getCurrentPath().getParentPath().getLeaf();
            boolean outer = around.getKind() == Tree.Kind.COMPILATION_UNIT;
            Set<Modifier> modifiers = tree.getModifiers().getFlags();
            boolean member = around.getKind() == Tree.Kind.CLASS;
            Check.that("rule 2: static, and no local one: " + at(tree),
                outer || (member && modifiers.contains(Modifier.STATIC)));
            Check.that("rule 1: not seen from outside: " + at(tree),
                outer || (!modifiers.contains(Modifier.PUBLIC) && !modifiers.contains(Modifier.PROTECTED)));
            int fields = 0;
            for (Tree part : tree.getMembers()) {
                boolean field = part instanceof VariableTree;
                if (field && !((VariableTree) part).getModifiers().getFlags().contains(Modifier.STATIC)) {
                    fields++;
                }
                Check.that("rule 5: no initialiser block " + at(part), !(part instanceof BlockTree));
            }
            Check.that("rule 11: some twenty fields: " + at(tree) + " " + fields, fields <= MOST_FIELDS);
            return super.visitClass(tree, none);
        }

        @Override
        public Void visitMethod(MethodTree tree, Void none) {
            method = nameOf(trees.getElement(getCurrentPath()));
            inConstructor = tree.getReturnType() == null;
            Check.that("one method of a name in a class: " + method, calls.put(method, new LinkedHashSet<>()) == null);
            if (tree.getModifiers().getFlags().contains(Modifier.PRIVATE)) {
                privates.add(method);
            }
            Check.that("rule 11: seven parameters: " + method, tree.getParameters().size() <= MOST_PARAMETERS);
            long end = trees.getSourcePositions().getEndPosition(unit, tree);
            // the compiler's own constructors have no text
            if (end >= 0) {
                long length = lines.getLineNumber(end) - lineOf(tree) + 1;
                Check.that("rule 11: some sixty lines: " + method + " " + length, length <= MOST_LINES);
            }
            Check.that("rule 6: declares no exception: " + method, tree.getThrows().isEmpty());
            super.visitMethod(tree, none);
            method = "";
            inConstructor = false;
            return null;
        }

        @Override
        public Void visitMethodInvocation(MethodInvocationTree tree, Void none) {
            calls(trees.getElement(new TreePath(getCurrentPath(), tree.getMethodSelect())), tree);
            return super.visitMethodInvocation(tree, none);
        }

        @Override
        public Void visitNewClass(NewClassTree tree, Void none) {
            Check.that("rule 2: no class without a name " + at(tree), tree.getClassBody() == null);
            Check.that("rule 12: objects are made by constructors alone " + at(tree),
                inConstructor || method.isEmpty());
            calls(trees.getElement(getCurrentPath()), tree);
            return super.visitNewClass(tree, none);
        }

        @Override
        public Void visitNewArray(NewArrayTree tree, Void none) {
            Check.that("rule 12: arrays are made by constructors alone " + at(tree), inConstructor || method.isEmpty());
            return super.visitNewArray(tree, none);
        }

        @Override
        public Void visitVariable(VariableTree tree, Void none) {
            Element element = trees.getElement(getCurrentPath());
            TypeMirror type = element.asType();
            Check.that("rule 3: the type of " + at(tree), TYPES.contains(type.toString()) || isOwn(type.toString()));
            Set<Modifier> modifiers = tree.getModifiers().getFlags();
            if (modifiers.contains(Modifier.STATIC)) {
                Check.that("rule 5: final " + at(tree), modifiers.contains(Modifier.FINAL));
                boolean written = tree.getInitializer() instanceof NewArrayTree
                    && ((NewArrayTree) tree.getInitializer()).getInitializers() != null;
                Check.that("rule 5: a constant, or a row written out: " + at(tree),
                    type.toString().equals("int") || written);
            }
            return super.visitVariable(tree, none);
        }

        @Override
        public Void visitAssignment(AssignmentTree tree, Void none) {
            changes(tree.getVariable());
            return super.visitAssignment(tree, none);
        }

        @Override
        public Void visitCompoundAssignment(CompoundAssignmentTree tree, Void none) {
            changes(tree.getVariable());
            return super.visitCompoundAssignment(tree, none);
        }

        @Override
        public Void visitUnary(UnaryTree tree, Void none) {
            if (tree.getKind().name().contains("CREMENT")) {
                changes(tree.getExpression());
            }
            return super.visitUnary(tree, none);
        }

        @Override
        public Void visitBinary(BinaryTree tree, Void none) {
            boolean divides = tree.getKind() == Tree.Kind.DIVIDE || tree.getKind() == Tree.Kind.REMAINDER;
            Check.that("rule 7: a divisor that is written out " + at(tree),
                !divides || tree.getRightOperand() instanceof LiteralTree);
            return super.visitBinary(tree, none);
        }

        private void changes(Tree changed) {
            TreePath path = new TreePath(getCurrentPath(), changed);
            if (changed instanceof ArrayAccessTree) {
                path = new TreePath(path, ((ArrayAccessTree) changed).getExpression());
            }
            Element element = trees.getElement(path);
            Check.that("rule 5: a constant is not changed " + at(changed),
                element == null || !element.getModifiers().contains(Modifier.STATIC));
        }

        private void calls(Element called, Tree from) {
            String name = nameOf(called);
            Check.that("rule 4: the library has only what stands there: " + name + " " + at(from),
                isOwn(called.getEnclosingElement().toString()) || LIBRARY.contains(name));
            if (!method.isEmpty() && !name.equals("Object.<init>")) {
                calls.get(method).add(name);
            }
        }

        private static boolean isOwn(String type) {
            return type.equals("TowersAndWaves") || type.startsWith("TowersAndWaves.");
        }

        private static String nameOf(Element called) {
            String owner = called.getEnclosingElement().getKind() == ElementKind.CLASS
                ? called.getEnclosingElement().getSimpleName().toString() : called.getEnclosingElement().toString();
            return (owner.equals("Array") ? "int[]" : owner) + "." + called.getSimpleName();
        }

        private long lineOf(Tree tree) {
            return lines.getLineNumber(trees.getSourcePositions().getStartPosition(unit, tree));
        }

        private String at(Tree tree) {
            long start = trees.getSourcePositions().getStartPosition(unit, tree);
            return start < 0 ? "" : "in line " + lines.getLineNumber(start);
        }
    }
}
