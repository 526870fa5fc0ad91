import com.sun.source.tree.AssertTree;
import com.sun.source.tree.BinaryTree;
import com.sun.source.tree.BlockTree;
import com.sun.source.tree.ClassTree;
import com.sun.source.tree.CompilationUnitTree;
import com.sun.source.tree.ExpressionTree;
import com.sun.source.tree.IdentifierTree;
import com.sun.source.tree.LambdaExpressionTree;
import com.sun.source.tree.LiteralTree;
import com.sun.source.tree.MemberReferenceTree;
import com.sun.source.tree.MethodInvocationTree;
import com.sun.source.tree.MethodTree;
import com.sun.source.tree.NewArrayTree;
import com.sun.source.tree.NewClassTree;
import com.sun.source.tree.SynchronizedTree;
import com.sun.source.tree.ThrowTree;
import com.sun.source.tree.Tree;
import com.sun.source.tree.TryTree;
import com.sun.source.tree.TypeCastTree;
import com.sun.source.tree.VariableTree;
import com.sun.source.util.JavacTask;
import com.sun.source.util.SourcePositions;
import com.sun.source.util.TreePathScanner;
import com.sun.source.util.Trees;
import java.io.IOException;
import java.nio.file.Path;
import java.util.LinkedHashMap;
import java.util.Map;
import java.util.Set;
import java.util.TreeSet;
import javax.lang.model.element.Element;
import javax.lang.model.element.ElementKind;
import javax.lang.model.element.Modifier;
import javax.lang.model.element.VariableElement;
import javax.tools.JavaCompiler;
import javax.tools.StandardJavaFileManager;
import javax.tools.ToolProvider;

/**
 * The rules of LANGUAGE.md that can be seen in the class's text, as javac reads it: 2 to 6, 8, 11 to
 * 13, some of them narrower here, where the class needs less than it may use. Rule 1 is FaceTest's;
 * that no call throws by itself (7) is seen by the tests that make calls.
 */
public final class LanguageTest extends TreePathScanner<Void, String> {
    private static final Set<String> LIBRARY =
            Set.of("Math.max", "Math.min", "Arrays.fill", "System.arraycopy");
    private static final Set<String> EXCEPTIONS = Set.of(
            "IllegalStateException", "IllegalArgumentException", "IndexOutOfBoundsException",
            "NoSuchElementException");
    private static final Set<String> TYPES =
            Set.of("int", "long", "boolean", "int[]");
    private static final int DEEPEST = 8;

    private final Checks checks = new Checks();
    private final Set<String> classes = new TreeSet<>();
    private final Map<String, Set<String>> calls = new LinkedHashMap<>();
    private Trees trees;
    private CompilationUnitTree unit;

    public static void main(String[] args) throws IOException {
        LanguageTest test = new LanguageTest();
        test.read(Path.of("src/main/java/NarrowingPacker.java"));
        test.checks.yes("at most twelve classes", test.classes.size() <= 12);
        test.depths();
        test.checks.end("LanguageTest");
    }

    private void read(Path file) throws IOException {
        JavaCompiler javac = ToolProvider.getSystemJavaCompiler();
        try (StandardJavaFileManager files = javac.getStandardFileManager(null, null, null)) {
            JavacTask task = (JavacTask) javac.getTask(
                    null, files, null, null, null, files.getJavaFileObjects(file));
            trees = Trees.instance(task);
            unit = task.parse().iterator().next();
            task.analyze();
            for (Tree type : unit.getTypeDecls()) {
                namesOfClasses((ClassTree) type);
            }
            scan(unit, "nothing");
        }
    }

    private void namesOfClasses(ClassTree tree) {
        classes.add(tree.getSimpleName().toString());
        for (Tree member : tree.getMembers()) {
            if (member instanceof ClassTree inside) {
                namesOfClasses(inside);
            }
        }
    }

    private String place(Tree tree) {
        SourcePositions positions = trees.getSourcePositions();
        long line = unit.getLineMap().getLineNumber(positions.getStartPosition(unit, tree));
        return "line " + line + ": " + tree.toString().lines().findFirst().orElse("");
    }

    private void refuse(String rule, Tree tree) {
        checks.yes(rule + ", " + place(tree), false);
    }

    private static String nameOf(Element e) {
        return e.getEnclosingElement().getSimpleName() + "." + e.getSimpleName();
    }

    /** What stands outside a method (a field's first value) is done by the constructor. */
    @Override
    public Void visitClass(ClassTree tree, String from) {
        int fields = 0;
        for (Tree member : tree.getMembers()) {
            boolean isField = member instanceof VariableTree;
            if (isField && !((VariableTree) member).getModifiers().getFlags()
                    .contains(Modifier.STATIC)) {
                fields++;
            }
            if (member instanceof BlockTree) {
                refuse("rule 5: no block outside a method", member);
            }
        }
        checks.yes("rule 11: twenty fields at most in " + tree.getSimpleName(), fields <= 20);
        return super.visitClass(tree, tree.getSimpleName() + ".<init>");
    }

    @Override
    public Void visitMethod(MethodTree tree, String from) {
        String name = nameOf(trees.getElement(getCurrentPath()));
        calls.computeIfAbsent(name, k -> new TreeSet<>());
        checks.yes("rule 11: parameters of " + name, tree.getParameters().size() <= 7);
        checks.yes("rule 11: lines of " + name, tree.toString().lines().count() <= 60);
        if (name.endsWith(".<init>")) {
            for (VariableTree given : tree.getParameters()) {
                checks.same("rule 12: what a constructor is given, " + name,
                        given.getType().toString(), "int");
            }
        }
        return super.visitMethod(tree, name);
    }

    /** Rule 3 for every type that is written, rule 5 for static fields. */
    @Override
    public Void visitVariable(VariableTree tree, String from) {
        String type = tree.getType().toString();
        checks.yes("rule 3: " + place(tree), TYPES.contains(type) || classes.contains(type));
        Element e = trees.getElement(getCurrentPath());
        if (e.getKind() == ElementKind.FIELD && e.getModifiers().contains(Modifier.STATIC)) {
            checks.yes("rule 5: a constant, " + place(tree),
                    ((VariableElement) e).getConstantValue() != null);
        }
        return super.visitVariable(tree, from);
    }

    @Override
    public Void visitMethodInvocation(MethodInvocationTree tree, String from) {
        Element e = trees.getElement(getCurrentPath());
        String name = nameOf(e);
        boolean own = classes.contains(e.getEnclosingElement().getSimpleName().toString());
        if (own) {
            calls.computeIfAbsent(from, k -> new TreeSet<>()).add(name);
        }
        boolean callsObject = name.equals("Object.<init>");
        checks.yes("rule 4: " + place(tree), own || callsObject || LIBRARY.contains(name));
        if (from.endsWith(".<init>")) {
            checks.yes("rule 12: a constructor calls nothing of its own, " + place(tree), !own);
        }
        return super.visitMethodInvocation(tree, from);
    }

    @Override
    public Void visitNewClass(NewClassTree tree, String from) {
        String name = tree.getIdentifier().toString();
        boolean thrown = getCurrentPath().getParentPath().getLeaf() instanceof ThrowTree;
        if (thrown) {
            checks.yes("rule 6: " + place(tree), EXCEPTIONS.contains(name));
        } else {
            checks.yes("rule 4: " + place(tree), classes.contains(name));
            checks.yes("only constructors make objects, " + place(tree), from.endsWith(".<init>"));
            calls.computeIfAbsent(from, k -> new TreeSet<>()).add(name + ".<init>");
        }
        for (ExpressionTree given : tree.getArguments()) {
            boolean written = given instanceof LiteralTree;
            checks.yes("rule 6: a written text, " + place(tree), !thrown || written);
            checks.yes("rule 12: this is handed out, " + place(tree),
                    !given.toString().equals("this"));
        }
        checks.yes("rule 2: no anonymous class, " + place(tree), tree.getClassBody() == null);
        return super.visitNewClass(tree, from);
    }

    @Override
    public Void visitNewArray(NewArrayTree tree, String from) {
        checks.yes("only constructors make rows, " + place(tree), from.endsWith(".<init>"));
        return super.visitNewArray(tree, from);
    }

    @Override
    public Void visitThrow(ThrowTree tree, String from) {
        checks.yes("rule 6: " + place(tree), tree.getExpression() instanceof NewClassTree);
        checks.yes("rule 6: no throw in a constructor, " + place(tree), !from.endsWith(".<init>"));
        return super.visitThrow(tree, from);
    }

    @Override
    public Void visitTry(TryTree tree, String from) {
        refuse("the class needs no try", tree);
        return super.visitTry(tree, from);
    }

    @Override
    public Void visitLambdaExpression(LambdaExpressionTree tree, String from) {
        refuse("rule 2", tree);
        return super.visitLambdaExpression(tree, from);
    }

    @Override
    public Void visitMemberReference(MemberReferenceTree tree, String from) {
        refuse("rule 2", tree);
        return super.visitMemberReference(tree, from);
    }

    @Override
    public Void visitSynchronized(SynchronizedTree tree, String from) {
        refuse("rule 6", tree);
        return super.visitSynchronized(tree, from);
    }

    @Override
    public Void visitAssert(AssertTree tree, String from) {
        refuse("rule 6", tree);
        return super.visitAssert(tree, from);
    }

    @Override
    public Void visitTypeCast(TypeCastTree tree, String from) {
        checks.same("a cast between numbers, " + place(tree), tree.getType().toString(), "int");
        return super.visitTypeCast(tree, from);
    }

    /** Rule 7: the only divisors are written numbers. */
    @Override
    public Void visitBinary(BinaryTree tree, String from) {
        if (tree.getKind() == Tree.Kind.DIVIDE || tree.getKind() == Tree.Kind.REMAINDER) {
            checks.same("rule 7: " + place(tree), tree.getRightOperand().toString(), "2");
        }
        return super.visitBinary(tree, from);
    }

    /** Rule 13, and rule 4 once more: no class of the library but those that are used. */
    @Override
    public Void visitIdentifier(IdentifierTree tree, String from) {
        Element e = trees.getElement(getCurrentPath());
        if (e != null && e.getKind().isClass() && from.contains(".")) {
            String name = e.getSimpleName().toString();
            checks.yes("rule 4: " + place(tree), classes.contains(name)
                    || EXCEPTIONS.contains(name) || Set.of("Math", "Arrays", "System").contains(name));
        }
        return super.visitIdentifier(tree, from);
    }

    /** Rules 8 and 11: no recursion, and no chain of calls longer than eight. */
    private void depths() {
        int deepest = 0;
        for (String name : calls.keySet()) {
            int depth = depth(name, 0);
            checks.yes("rule 11: " + name + " goes " + depth + " deep", depth <= DEEPEST);
            deepest = Math.max(deepest, depth);
        }
        checks.yes("the chains were seen: " + deepest, deepest > DEEPEST / 2);
    }

    private int depth(String name, int above) {
        if (above > DEEPEST) {
            return 1;
        }
        int below = 0;
        for (String called : calls.getOrDefault(name, Set.of())) {
            below = Math.max(below, depth(called, above + 1));
        }
        return 1 + below;
    }
}
