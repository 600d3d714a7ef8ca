import com.sun.source.tree.*;
import com.sun.source.util.JavacTask;
import com.sun.source.util.TreePathScanner;
import com.sun.source.util.Trees;
import java.io.IOException;
import java.nio.file.Path;
import java.util.HashMap;
import java.util.HashSet;
import java.util.Map;
import java.util.Set;
import java.util.TreeSet;
import javax.lang.model.element.Element;
import javax.lang.model.element.Modifier;
import javax.tools.JavaCompiler;
import javax.tools.StandardJavaFileManager;
import javax.tools.ToolProvider;

/** The rules of LANGUAGE.md that can be read off the class's text, each told by its number. FaceTest has rule 1. */
public final class LanguageTest {
    private static final Path MAIN = Path.of("src/main/java/ObjectRows.java");
    /** What the class needs of what rule 4 lists, and below of rule 3; to need more of it, write it here. */
    private static final Set<String> LIBRARY = Set.of("java.util.Arrays.copyOf", "java.util.Arrays.copyOfRange",
        "java.util.Arrays.fill", "java.lang.System.arraycopy", "java.lang.Math.min", "java.lang.Math.max");
    private static final Set<String> CONSTANTS = Set.of("int", "long", "boolean", "char", "String");
    private static final Set<String> TYPES = Set.of("int", "int[]", "boolean", "Row", "Changing", "Changing[]");
    private static final int MOST_PARAMETERS = 7;
    private static final int MOST_LINES = 60;
    private static final int MOST_DEPTH = 8;
    private static final int MOST_CLASSES = 12;
    private static final int MOST_FIELDS = 20;

    private static final Due due = new Due();

    public static void main(String[] args) throws IOException {
        JavaCompiler compiler = ToolProvider.getSystemJavaCompiler();
        try (StandardJavaFileManager files = compiler.getStandardFileManager(null, null, null)) {
            JavacTask task = (JavacTask) compiler.getTask(
                null, files, null, null, null, files.getJavaFileObjects(MAIN));
            Iterable<? extends CompilationUnitTree> units = task.parse();
            task.analyze();
            Rules rules = new Rules(Trees.instance(task));
            for (CompilationUnitTree unit : units) {
                rules.scan(unit, null);
            }
            rules.end();
        }
        due.end();
    }

    private static final class Rules extends TreePathScanner<Void, Void> {
        private final Trees trees;
        private final Map<Element, Set<Element>> calls = new HashMap<>();
        private final TreeSet<String> throwing = new TreeSet<>();
        private MethodTree method;
        private Element caller;
        private int classes;

        Rules(Trees trees) {
            this.trees = trees;
        }

        private Element element() {
            return trees.getElement(getCurrentPath());
        }

        private void rule(int number, boolean kept, Tree where) {
            String text = where.toString().strip().replaceAll("\\s+", " ");
            due.yes("rule " + number + ": " + text.substring(0, Math.min(text.length(), 100)), kept);
        }

        @Override
        public Void visitClass(ClassTree node, Void none) {
            classes++;
            int fields = 0;
            for (Tree member : node.getMembers()) {
                rule(5, !(member instanceof BlockTree), member);
                if (member instanceof VariableTree field) {
                    Set<Modifier> flags = field.getModifiers().getFlags();
                    boolean isStatic = flags.contains(Modifier.STATIC);
                    boolean constant = flags.contains(Modifier.FINAL) && CONSTANTS.contains(field.getType().toString());
                    fields += isStatic ? 0 : 1;
                    rule(5, !isStatic || constant, field);
                }
            }
            rule(11, fields <= MOST_FIELDS, node);
            return super.visitClass(node, none);
        }

        @Override
        public Void visitMethod(MethodTree node, Void none) {
            method = node;
            caller = element();
            calls.computeIfAbsent(caller, c -> new HashSet<>());
            rule(11, node.getParameters().size() <= MOST_PARAMETERS, node);
            rule(11, node.toString().lines().count() <= MOST_LINES, node);
            super.visitMethod(node, none);
            method = null;
            caller = null;
            return null;
        }

        @Override
        public Void visitVariable(VariableTree node, Void none) {
            rule(3, TYPES.contains(node.getType().toString()), node);
            return super.visitVariable(node, none);
        }

        @Override
        public Void visitMethodInvocation(MethodInvocationTree node, Void none) {
            Element called = element();
            String owner = called.getEnclosingElement().toString();
            boolean superConstructor = called.getSimpleName().contentEquals("<init>");
            if (owner.equals("ObjectRows") || owner.startsWith("ObjectRows.")) {
                calls.computeIfAbsent(caller, c -> new HashSet<>()).add(called);
            } else if (!superConstructor) {
                rule(4, LIBRARY.contains(owner + "." + called.getSimpleName()), node);
            }
            return super.visitMethodInvocation(node, none);
        }

        @Override
        public Void visitNewClass(NewClassTree node, Void none) {
            boolean own = element().getEnclosingElement().toString().startsWith("ObjectRows");
            rule(4, own || getCurrentPath().getParentPath().getLeaf() instanceof ThrowTree, node);
            rule(2, node.getClassBody() == null, node);
            return super.visitNewClass(node, none);
        }

        @Override
        public Void visitThrow(ThrowTree node, Void none) {
            String written = node.getExpression().toString();
            rule(6, written.matches("new \\w+\\((\"[^\"]*\")?\\)"), node);
            throwing.add(method.getName() + " throws " + written.replaceFirst("new (\\w+).*", "$1"));
            return super.visitThrow(node, none);
        }

        /** The class calls nothing that throws, so it needs no try at all. */
        @Override
        public Void visitTry(TryTree node, Void none) {
            rule(6, false, node);
            return super.visitTry(node, none);
        }

        @Override
        public Void visitSynchronized(SynchronizedTree node, Void none) {
            rule(6, false, node);
            return super.visitSynchronized(node, none);
        }

        @Override
        public Void visitAssert(AssertTree node, Void none) {
            rule(6, false, node);
            return super.visitAssert(node, none);
        }

        @Override
        public Void visitLambdaExpression(LambdaExpressionTree node, Void none) {
            rule(2, false, node);
            return super.visitLambdaExpression(node, none);
        }

        @Override
        public Void visitMemberReference(MemberReferenceTree node, Void none) {
            rule(2, false, node);
            return super.visitMemberReference(node, none);
        }

        /** Needed nowhere, as a divisor is not, and either could throw by itself. */
        @Override
        public Void visitTypeCast(TypeCastTree node, Void none) {
            rule(7, false, node);
            return super.visitTypeCast(node, none);
        }

        @Override
        public Void visitBinary(BinaryTree node, Void none) {
            rule(7, node.getKind() != Tree.Kind.DIVIDE && node.getKind() != Tree.Kind.REMAINDER, node);
            return super.visitBinary(node, none);
        }

        /** The method that uses an index looks at it first, in these very words. */
        @Override
        public Void visitArrayAccess(ArrayAccessTree node, Void none) {
            String test = String.format("%2$s >= 0 && %2$s < %1$s.length", node.getExpression(), node.getIndex());
            rule(7, method != null && method.toString().contains(test), node);
            return super.visitArrayAccess(node, none);
        }

        @Override
        public Void visitForLoop(ForLoopTree node, Void none) {
            rule(9, node.getCondition() instanceof BinaryTree && node.getUpdate().size() == 1, node);
            return super.visitForLoop(node, none);
        }

        @Override
        public Void visitWhileLoop(WhileLoopTree node, Void none) {
            rule(9, false, node);
            return super.visitWhileLoop(node, none);
        }

        @Override
        public Void visitDoWhileLoop(DoWhileLoopTree node, Void none) {
            rule(9, false, node);
            return super.visitDoWhileLoop(node, none);
        }

        void end() {
            due.yes("rule 11: " + classes + " classes", classes >= 1 && classes <= MOST_CLASSES);
            due.yes("rule 6: " + throwing, throwing.toString().equals("[get throws ArrayIndexOutOfBoundsException]"));
            for (Element called : calls.keySet()) {
                int depth = depth(called, 1);
                due.yes("rule 11: " + called + " goes " + depth + " deep", depth <= MOST_DEPTH);
            }
        }

        /** A call of oneself would go deeper than is counted. */
        private int depth(Element from, int level) {
            int deepest = level;
            if (level > MOST_DEPTH) {
                return deepest;
            }
            for (Element called : calls.getOrDefault(from, Set.of())) {
                deepest = Math.max(deepest, depth(called, level + 1));
            }
            return deepest;
        }
    }
}
