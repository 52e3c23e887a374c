import com.sun.source.tree.*;
import com.sun.source.util.JavacTask;
import com.sun.source.util.TreePath;
import com.sun.source.util.TreePathScanner;
import com.sun.source.util.Trees;
import java.io.File;
import java.util.ArrayList;
import java.util.Arrays;
import java.util.HashMap;
import java.util.HashSet;
import java.util.LinkedHashMap;
import java.util.List;
import java.util.Map;
import java.util.Set;
import java.util.TreeSet;
import javax.lang.model.element.Element;
import javax.lang.model.element.ElementKind;
import javax.lang.model.element.Modifier;
import javax.lang.model.element.TypeElement;
import javax.lang.model.element.VariableElement;
import javax.tools.JavaCompiler;
import javax.tools.StandardJavaFileManager;
import javax.tools.ToolProvider;

/** Those rules of LANGUAGE.md that can be read off the source of OneHead. */
public final class LanguageRules extends TreePathScanner<Void, Void> {
    private static final Set<String> FACE = new TreeSet<>(List.of("feed", "end", "village", "fault", "told",
            "meeting", "time", "judge", "judged", "soon", "surest", "bars", "all", "together", "reply", "ring",
            "bestRing", "where", "ask", "fight", "believe", "rule", "begin", "go", "now", "head", "keep", "take",
            "count", "NONE", "RANGE", "FULL", "STATE"));
    private static final Set<String> LIBRARY = Set.of("System.arraycopy", "Arrays.fill", "Integer.bitCount",
            "Long.compare", "Math.max", "Math.min", "String.length", "String.charAt", "Object.<init>");
    private static final Set<Tree.Kind> FORBIDDEN = Set.of(Tree.Kind.THROW, Tree.Kind.TRY, Tree.Kind.CATCH,
            Tree.Kind.SYNCHRONIZED, Tree.Kind.ASSERT, Tree.Kind.LAMBDA_EXPRESSION, Tree.Kind.MEMBER_REFERENCE);

    private static final Set<Tree.Kind> COMPARISONS = Set.of(Tree.Kind.LESS_THAN, Tree.Kind.LESS_THAN_EQUAL,
            Tree.Kind.GREATER_THAN, Tree.Kind.GREATER_THAN_EQUAL);

    private static int wrong = 0;

    private final Trees trees;
    private final CompilationUnitTree unit;
    private final Map<Element, Set<Element>> calls = new LinkedHashMap<>();
    private final Set<Element> own = new HashSet<>();
    private Element method;
    private Set<Element> lookedAt = Set.of();
    private int classes;

    private LanguageRules(Trees trees, CompilationUnitTree unit) {
        this.trees = trees;
        this.unit = unit;
    }

    public static void main(String[] args) throws Exception {
        JavaCompiler compiler = ToolProvider.getSystemJavaCompiler();
        try (StandardJavaFileManager files = compiler.getStandardFileManager(null, null, null)) {
            JavacTask task = (JavacTask) compiler.getTask(null, files, null, List.of("-proc:none"), null,
                    files.getJavaFileObjects(new File("src/main/java/OneHead.java")));
            List<CompilationUnitTree> units = new ArrayList<>();
            task.parse().forEach(units::add);
            task.analyze();
            for (CompilationUnitTree unit : units) {
                new LanguageRules(Trees.instance(task), unit).look();
            }
        }
        System.out.println(wrong == 0 ? "the source keeps to the rules" : wrong + " places break the rules");
        if (wrong != 0) {
            System.exit(1);
        }
    }

    private void look() {
        scan(unit, null);
        face();
        if (classes > 12) {
            fail(11, classes + " classes", unit);
        }
        for (Element e : calls.keySet()) {
            if (e.getModifiers().contains(Modifier.PUBLIC)) {
                int depth = depth(e, new HashMap<>(), new HashSet<>());
                if (depth > 8) {
                    fail(11, e + " goes " + depth + " deep", unit);
                }
            }
        }
    }

    private int depth(Element e, Map<Element, Integer> known, Set<Element> open) {
        if (!open.add(e)) {
            fail(8, e + " calls itself", unit);
            return 0;
        }
        Integer told = known.get(e);
        int most = told == null ? 0 : told;
        if (told == null) {
            for (Element next : calls.getOrDefault(e, Set.of())) {
                most = Math.max(most, depth(next, known, open));
            }
            most++;
            known.put(e, most);
        }
        open.remove(e);
        return most;
    }

    private void fail(int rule, String what, Tree where) {
        wrong++;
        long line = unit.getLineMap().getLineNumber(
                Math.max(0, trees.getSourcePositions().getStartPosition(unit, where)));
        System.out.println("rule " + rule + ", line " + line + ": " + what);
    }

    private void face() {
        Set<String> seen = new TreeSet<>();
        for (Element e : own) {
            if (e.getEnclosingElement().getSimpleName().contentEquals("OneHead")
                    && e.getKind() != ElementKind.CLASS && e.getKind() != ElementKind.CONSTRUCTOR
                    && !e.getModifiers().contains(Modifier.PRIVATE)) {
                seen.add(e.getSimpleName().toString());
                if (!e.getModifiers().contains(Modifier.PUBLIC)) {
                    fail(1, e + " is neither public nor private", unit);
                }
            }
        }
        if (!seen.equals(FACE)) {
            fail(1, "the face is " + seen, unit);
        }
    }

    @Override
    public Void scan(Tree tree, Void p) {
        if (tree != null && FORBIDDEN.contains(tree.getKind())) {
            fail(6, tree.getKind().toString(), tree);
        }
        return super.scan(tree, p);
    }

    @Override
    public Void visitClass(ClassTree tree, Void p) {
        classes++;
        Element e = trees.getElement(getCurrentPath());
        boolean outer = e.getSimpleName().contentEquals("OneHead");
        if (!outer && !(e.getModifiers().contains(Modifier.STATIC) && e.getModifiers().contains(Modifier.PRIVATE))) {
            fail(2, e + " is not private and static", tree);
        }
        long fields = tree.getMembers().stream().filter(m -> m instanceof VariableTree v
                && !v.getModifiers().getFlags().contains(Modifier.STATIC)).count();
        if (fields > 20) {
            fail(11, e + " has " + fields + " fields", tree);
        }
        return super.visitClass(tree, p);
    }

    @Override
    public Void visitMethod(MethodTree tree, Void p) {
        Element e = trees.getElement(getCurrentPath());
        own.add(e);
        calls.put(e, new HashSet<>());
        if (!e.getModifiers().contains(Modifier.PUBLIC) && FACE.contains(tree.getName().toString())) {
            fail(1, e + " bears the name of a public one", tree);
        }
        if (tree.getParameters().size() > 7) {
            fail(11, e + " has too many parameters", tree);
        }
        long from = unit.getLineMap().getLineNumber(trees.getSourcePositions().getStartPosition(unit, tree));
        long to = unit.getLineMap().getLineNumber(trees.getSourcePositions().getEndPosition(unit, tree));
        if (to - from > 60) {
            fail(11, e + " has " + (to - from) + " lines", tree);
        }
        method = e;
        lookedAt = comparedIn(getCurrentPath());
        super.visitMethod(tree, p);
        method = null;
        return null;
    }

    /** What a method compares with something, so that it is looked at before it is used. */
    private Set<Element> comparedIn(TreePath path) {
        Set<Element> found = new HashSet<>();
        new TreePathScanner<Void, Void>() {
            @Override
            public Void visitBinary(BinaryTree tree, Void p) {
                if (COMPARISONS.contains(tree.getKind())) {
                    found.addAll(namesIn(new TreePath(getCurrentPath(), tree.getLeftOperand())));
                    found.addAll(namesIn(new TreePath(getCurrentPath(), tree.getRightOperand())));
                }
                return super.visitBinary(tree, p);
            }
        }.scan(path, null);
        return found;
    }

    /** The variables and calls in an expression; constants can be looked at by whoever reads them. */
    private Set<Element> namesIn(TreePath path) {
        Set<Element> found = new HashSet<>();
        new TreePathScanner<Void, Void>() {
            @Override
            public Void visitIdentifier(IdentifierTree tree, Void p) {
                Element e = trees.getElement(getCurrentPath());
                if (!(e instanceof VariableElement v && v.getConstantValue() != null) && !(e instanceof TypeElement)) {
                    found.add(e);
                }
                return super.visitIdentifier(tree, p);
            }
        }.scan(path, null);
        return found;
    }

    private void dueLookedAt(String what, ExpressionTree tree) {
        for (Element e : namesIn(new TreePath(getCurrentPath(), tree))) {
            if (!lookedAt.contains(e)) {
                fail(7, what + " " + tree + ": " + e + " is not looked at", tree);
            }
        }
    }

    @Override
    public Void visitBinary(BinaryTree tree, Void p) {
        if (tree.getKind() == Tree.Kind.DIVIDE || tree.getKind() == Tree.Kind.REMAINDER) {
            dueLookedAt("divisor", tree.getRightOperand());
        }
        return super.visitBinary(tree, p);
    }

    @Override
    public Void visitCompoundAssignment(CompoundAssignmentTree tree, Void p) {
        if (tree.getKind() == Tree.Kind.DIVIDE_ASSIGNMENT || tree.getKind() == Tree.Kind.REMAINDER_ASSIGNMENT) {
            dueLookedAt("divisor", tree.getExpression());
        }
        return super.visitCompoundAssignment(tree, p);
    }

    @Override
    public Void visitArrayAccess(ArrayAccessTree tree, Void p) {
        dueLookedAt("index", tree.getIndex());
        return super.visitArrayAccess(tree, p);
    }

    @Override
    public Void visitVariable(VariableTree tree, Void p) {
        Element e = trees.getElement(getCurrentPath());
        if (e.getKind() == ElementKind.FIELD) {
            own.add(e);
            Set<Modifier> flags = e.getModifiers();
            if (flags.contains(Modifier.STATIC)
                    && (!flags.contains(Modifier.FINAL)
                    || !e.asType().getKind().isPrimitive() && !e.asType().toString().equals("int[]"))) {
                fail(5, e + " is no constant", tree);
            }
        }
        return super.visitVariable(tree, p);
    }

    @Override
    public Void visitMethodInvocation(MethodInvocationTree tree, Void p) {
        Element e = trees.getElement(new TreePath(getCurrentPath(), tree.getMethodSelect()));
        String name = e.getEnclosingElement().getSimpleName() + "." + e.getSimpleName();
        boolean library = !e.getEnclosingElement().toString().startsWith("OneHead");
        if (library && !LIBRARY.contains(name)) {
            fail(4, name, tree);
        }
        if (method != null) {
            calls.get(method).add(e);
        }
        return super.visitMethodInvocation(tree, p);
    }

    @Override
    public Void visitNewClass(NewClassTree tree, Void p) {
        made(tree);
        return super.visitNewClass(tree, p);
    }

    @Override
    public Void visitNewArray(NewArrayTree tree, Void p) {
        made(tree);
        return super.visitNewArray(tree, p);
    }

    /** All rows live in one room, so only constructors make any. */
    private void made(Tree tree) {
        boolean constant = method == null && tree instanceof NewArrayTree a && a.getInitializers() != null;
        if (!constant && (method == null || method.getKind() != ElementKind.CONSTRUCTOR)) {
            fail(12, "made outside a constructor: " + tree, tree);
        }
    }

    @Override
    public Void visitImport(ImportTree tree, Void p) {
        if (!Arrays.asList("java.util.Arrays").contains(tree.getQualifiedIdentifier().toString())) {
            fail(4, tree.toString(), tree);
        }
        return super.visitImport(tree, p);
    }
}
