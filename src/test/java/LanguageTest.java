import com.sun.source.tree.ClassTree;
import com.sun.source.tree.CompilationUnitTree;
import com.sun.source.tree.MethodInvocationTree;
import com.sun.source.tree.MethodTree;
import com.sun.source.tree.Tree;
import com.sun.source.tree.VariableTree;
import com.sun.source.util.JavacTask;
import com.sun.source.util.SourcePositions;
import com.sun.source.util.TreePathScanner;
import com.sun.source.util.Trees;
import java.io.IOException;
import java.nio.file.Path;
import java.util.ArrayList;
import java.util.LinkedHashMap;
import java.util.LinkedHashSet;
import java.util.List;
import java.util.Map;
import java.util.Set;
import javax.lang.model.element.Element;
import javax.lang.model.element.ElementKind;
import javax.lang.model.element.ExecutableElement;
import javax.lang.model.element.Modifier;
import javax.tools.JavaCompiler;
import javax.tools.StandardJavaFileManager;
import javax.tools.ToolProvider;

/**
 * Rules of LANGUAGE.md that the source shows. Where the class needs less than they allow (no throw,
 * no cast, three methods of the library), less is allowed here, so that more is a choice.
 */
public final class LanguageTest {
    private static final Path SOURCE = Path.of("src/main/java/SharedTrees.java");
    private static final int MOST_DEPTH = 8;
    private static final int MOST_PARAMETERS = 7;
    private static final int MOST_LINES = 60;
    private static final int MOST_CLASSES = 12;
    private static final int MOST_FIELDS = 20;
    private static final Set<String> LIBRARY = Set.of("Math.max", "Math.min", "System.arraycopy");
    private static final Set<Tree.Kind> NOT_USED = Set.of(Tree.Kind.TRY, Tree.Kind.THROW,
        Tree.Kind.LAMBDA_EXPRESSION, Tree.Kind.MEMBER_REFERENCE, Tree.Kind.SYNCHRONIZED,
        Tree.Kind.ASSERT, Tree.Kind.TYPE_CAST, Tree.Kind.DIVIDE_ASSIGNMENT, Tree.Kind.REMAINDER);

    private static final Due due = new Due();

    public static void main(String[] args) throws IOException {
        JavaCompiler compiler = ToolProvider.getSystemJavaCompiler();
        try (StandardJavaFileManager files = compiler.getStandardFileManager(null, null, null)) {
            JavacTask task = (JavacTask) compiler.getTask(
                null, files, null, List.of("--release", "17"), null, files.getJavaFileObjects(SOURCE));
            Iterable<? extends CompilationUnitTree> units = task.parse();
            task.analyze();
            Source source = new Source(Trees.instance(task));
            for (CompilationUnitTree unit : units) {
                source.scan(unit, null);
            }
            due.holds("at most " + MOST_CLASSES + " classes, not " + source.classes,
                source.classes <= MOST_CLASSES);
            depthOfFace(source.calls);
        }
        due.end();
    }

    private static void depthOfFace(Map<Element, Set<Element>> calls) {
        int faces = 0;
        for (Element method : calls.keySet()) {
            if (method.getModifiers().contains(Modifier.PUBLIC)) {
                List<Element> row = longestRow(method, calls, new LinkedHashSet<>());
                due.holds("rule 11: at most " + MOST_DEPTH + " calls deep, not " + row,
                    row.size() <= MOST_DEPTH);
                faces++;
            }
        }
        due.is("public methods and constructors", faces, 13);
    }

    /** A method that calls itself stands in a row once: its depth is what rule 8 is about. */
    private static List<Element> longestRow(
            Element method, Map<Element, Set<Element>> calls, Set<Element> open) {
        List<Element> below = List.of();
        open.add(method);
        for (Element called : calls.getOrDefault(method, Set.of())) {
            if (!open.contains(called)) {
                List<Element> row = longestRow(called, calls, open);
                below = row.size() > below.size() ? row : below;
            }
        }
        open.remove(method);
        List<Element> row = new ArrayList<>(List.of(method));
        row.addAll(below);
        return row;
    }

    private static final class Source extends TreePathScanner<Void, Void> {
        private final Trees trees;
        private final SourcePositions positions;
        private final Map<Element, Set<Element>> calls = new LinkedHashMap<>();
        private Element method;
        private int classes;

        Source(Trees trees) {
            this.trees = trees;
            positions = trees.getSourcePositions();
        }

        @Override
        public Void scan(Tree tree, Void none) {
            if (tree != null) {
                due.holds("no " + tree.getKind() + " is needed: " + tree, !NOT_USED.contains(tree.getKind()));
            }
            return super.scan(tree, none);
        }

        @Override
        public Void visitClass(ClassTree tree, Void none) {
            classes++;
            int fields = 0;
            for (Tree member : tree.getMembers()) {
                due.holds("rule 5: no static block", member.getKind() != Tree.Kind.BLOCK);
                if (member instanceof VariableTree field) {
                    Set<Modifier> modifiers = field.getModifiers().getFlags();
                    boolean isStatic = modifiers.contains(Modifier.STATIC);
                    due.holds("rule 5: " + field + " is final",
                        !isStatic || modifiers.contains(Modifier.FINAL));
                    fields += isStatic ? 0 : 1;
                }
            }
            due.holds("rule 11: few fields in " + tree.getSimpleName(), fields <= MOST_FIELDS);
            return super.visitClass(tree, none);
        }

        @Override
        public Void visitMethod(MethodTree tree, Void none) {
            method = trees.getElement(getCurrentPath());
            calls.put(method, new LinkedHashSet<>());
            due.holds("rule 11: few parameters of " + method,
                tree.getParameters().size() <= MOST_PARAMETERS);
            due.holds("rule 11: " + method + " is short", lines(tree) <= MOST_LINES);
            super.visitMethod(tree, none);
            method = null;
            return null;
        }

        private long lines(MethodTree tree) {
            CompilationUnitTree unit = getCurrentPath().getCompilationUnit();
            return unit.getLineMap().getLineNumber(positions.getEndPosition(unit, tree))
                - unit.getLineMap().getLineNumber(positions.getStartPosition(unit, tree)) + 1;
        }

        @Override
        public Void visitMethodInvocation(MethodInvocationTree tree, Void none) {
            Element called = trees.getElement(getCurrentPath());
            if (called instanceof ExecutableElement && called.getKind() == ElementKind.METHOD) {
                if (!isOwn(called)) {
                    String name = called.getEnclosingElement().getSimpleName() + "." + called.getSimpleName();
                    due.holds("rule 4: " + name + " is of the library's part", LIBRARY.contains(name));
                }
                if (method != null) {
                    calls.get(method).add(called);
                }
            }
            return super.visitMethodInvocation(tree, none);
        }

        private boolean isOwn(Element called) {
            Element owner = called;
            while (owner.getEnclosingElement().getKind() != ElementKind.PACKAGE) {
                owner = owner.getEnclosingElement();
            }
            return owner.getSimpleName().contentEquals("SharedTrees");
        }
    }
}
