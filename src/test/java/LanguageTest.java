import com.sun.source.tree.AssertTree;
import com.sun.source.tree.BinaryTree;
import com.sun.source.tree.ClassTree;
import com.sun.source.tree.CompilationUnitTree;
import com.sun.source.tree.CompoundAssignmentTree;
import com.sun.source.tree.ImportTree;
import com.sun.source.tree.LambdaExpressionTree;
import com.sun.source.tree.MemberReferenceTree;
import com.sun.source.tree.MethodInvocationTree;
import com.sun.source.tree.MethodTree;
import com.sun.source.tree.NewArrayTree;
import com.sun.source.tree.NewClassTree;
import com.sun.source.tree.SynchronizedTree;
import com.sun.source.tree.ThrowTree;
import com.sun.source.tree.Tree;
import com.sun.source.tree.TryTree;
import com.sun.source.tree.VariableTree;
import com.sun.source.util.JavacTask;
import com.sun.source.util.TreePathScanner;
import com.sun.source.util.Trees;
import java.io.IOException;
import java.nio.file.Path;
import java.util.ArrayDeque;
import java.util.ArrayList;
import java.util.Deque;
import java.util.HashMap;
import java.util.HashSet;
import java.util.List;
import java.util.Map;
import java.util.Set;
import java.util.TreeSet;
import javax.lang.model.element.Element;
import javax.lang.model.element.Modifier;
import javax.lang.model.element.TypeElement;
import javax.lang.model.type.TypeKind;
import javax.tools.JavaCompiler;
import javax.tools.StandardJavaFileManager;
import javax.tools.ToolProvider;

/** The rules of ../shared/LANGUAGE.md that the program's text shows, and that it makes objects in constructors alone. */
public final class LanguageTest extends TreePathScanner<Void, Void> {
    private static final Set<String> LIBRARY = Set.of("System.arraycopy", "Arrays.fill", "Math.max", "Math.floorMod",
        "Integer.bitCount", "String.length", "String.charAt", "Object.<init>");
    private static final int DEEPEST = 8;
    private static final int LONGEST = 60;

    private final Trees trees;
    private final CompilationUnitTree unit;
    private final Map<String, Set<String>> calls = new HashMap<>();
    private final Set<String> entries = new TreeSet<>();
    private final Deque<String> classes = new ArrayDeque<>();
    private String method = null;
    private int classCount = 0;

    private LanguageTest(Trees trees, CompilationUnitTree unit) {
        this.trees = trees;
        this.unit = unit;
    }

    public static void main(String[] args) throws IOException {
        JavaCompiler compiler = ToolProvider.getSystemJavaCompiler();
        try (StandardJavaFileManager files = compiler.getStandardFileManager(null, null, null)) {
            JavacTask task = (JavacTask) compiler.getTask(null, files, null, List.of("-proc:none"), null,
                files.getJavaFileObjects(Path.of(args[0])));
            List<CompilationUnitTree> units = new ArrayList<>();
            task.parse().forEach(units::add);
            task.analyze();
            LanguageTest test = new LanguageTest(Trees.instance(task), units.get(0));
            test.scan(test.unit, null);
            test.whole();
        }
        Check.end("LanguageTest");
    }

    private void whole() throws IOException {
        String text = unit.getSourceFile().getCharContent(true).toString();
        Check.same("rule 4: signs 1 to 127", text.chars().allMatch(sign -> sign >= 1 && sign <= 127), true);
        Check.same("rule 1: no package", unit.getPackageName() == null, true);
        Check.same("rule 1: one class at the top", unit.getTypeDecls().size(), 1);
        Check.same("rule 11: some twelve classes", classCount <= 12, true);
        Check.same("the face is seen", entries.size() >= 42, true);
        for (String entry : entries) {
            int depth = depth(entry, new HashSet<>());
            Check.same("rule 11: " + entry + " goes " + depth + " deep", depth <= DEEPEST, true);
        }
    }

    /** How many calls stand open at most from this one on; a call that comes to itself counts as too deep. */
    private int depth(String name, Set<String> open) {
        if (!open.add(name)) {
            return 1000;
        }
        int deepest = 0;
        for (String called : calls.getOrDefault(name, Set.of())) {
            deepest = Math.max(deepest, depth(called, open));
        }
        open.remove(name);
        return deepest + 1;
    }

    private String here() {
        return method != null ? method : classes.peek() + ".<init>";
    }

    private static String nameOf(Element called) {
        return called.getEnclosingElement().getSimpleName() + "." + called.getSimpleName();
    }

    private void never(String what, Tree tree) {
        Check.same(what + " in " + here() + ": " + tree, true, false);
    }

    private void call(Element called) {
        String name = nameOf(called);
        TypeElement owner = (TypeElement) called.getEnclosingElement();
        boolean own = owner.getQualifiedName().toString().startsWith("RankedRing");
        Check.same("rule 4: " + name, own || LIBRARY.contains(name), true);
        calls.computeIfAbsent(here(), k -> new HashSet<>()).add(name);
    }

    @Override
    public Void visitImport(ImportTree tree, Void none) {
        Check.same("rule 4: import", tree.getQualifiedIdentifier().toString(), "java.util.Arrays");
        return super.visitImport(tree, none);
    }

    @Override
    public Void visitClass(ClassTree tree, Void none) {
        Set<Modifier> flags = tree.getModifiers().getFlags();
        boolean nested = !classes.isEmpty();
        Check.same("rule 2: " + tree.getSimpleName(), flags.contains(Modifier.STATIC), nested);
        Check.same("rule 2: a name: " + tree.getSimpleName(), tree.getSimpleName().length() > 0 && method == null, true);
        classCount++;
        classes.push(tree.getSimpleName().toString());
        super.visitClass(tree, none);
        classes.pop();
        return null;
    }

    @Override
    public Void visitMethod(MethodTree tree, Void none) {
        method = classes.peek() + "." + tree.getName();
        boolean made = tree.getReturnType() == null;
        if (tree.getModifiers().getFlags().contains(Modifier.PUBLIC) && classes.size() == 1) {
            entries.add(method);
        }
        long from = trees.getSourcePositions().getStartPosition(unit, tree);
        long to = trees.getSourcePositions().getEndPosition(unit, tree);
        // A constructor that is not told has no end.
        long lines = to < 0 ? 1 : unit.getLineMap().getLineNumber(to) - unit.getLineMap().getLineNumber(from) + 1;
        Check.same("rule 11: " + method + " is " + lines + " lines long", lines <= LONGEST, true);
        Check.same("rule 11: parameters of " + method, tree.getParameters().size() <= 7, true);
        Check.same("rule 6: throws of " + method, tree.getThrows().size(), 0);
        for (String own : List.of("equals", "hashCode", "toString", "finalize", "clone")) {
            Check.same("rule 6: " + method, !made && tree.getName().contentEquals(own), false);
        }
        super.visitMethod(tree, none);
        method = null;
        return null;
    }

    @Override
    public Void visitMethodInvocation(MethodInvocationTree tree, Void none) {
        Element called = trees.getElement(getCurrentPath());
        call(called);
        return super.visitMethodInvocation(tree, none);
    }

    @Override
    public Void visitNewClass(NewClassTree tree, Void none) {
        Check.same("objects are made in constructors: " + tree + " in " + here(), here().endsWith(".<init>"), true);
        Check.same("rule 2: no body of its own: " + tree, tree.getClassBody() == null, true);
        call(trees.getElement(getCurrentPath()));
        return super.visitNewClass(tree, none);
    }

    @Override
    public Void visitNewArray(NewArrayTree tree, Void none) {
        Check.same("rows are made in constructors: " + tree + " in " + here(), here().endsWith(".<init>"), true);
        return super.visitNewArray(tree, none);
    }

    @Override
    public Void visitVariable(VariableTree tree, Void none) {
        Set<Modifier> flags = tree.getModifiers().getFlags();
        Check.same("rule 5: " + tree.getName(), flags.contains(Modifier.STATIC) && !flags.contains(Modifier.FINAL), false);
        return super.visitVariable(tree, none);
    }

    @Override
    public Void visitBinary(BinaryTree tree, Void none) {
        TypeKind kind = trees.getTypeMirror(getCurrentPath()).getKind();
        Check.same("rule 10: numbers and truths alone: " + tree, kind.isPrimitive(), true);
        return super.visitBinary(tree, none);
    }

    @Override
    public Void visitCompoundAssignment(CompoundAssignmentTree tree, Void none) {
        TypeKind kind = trees.getTypeMirror(getCurrentPath()).getKind();
        Check.same("rule 10: numbers alone: " + tree, kind.isPrimitive(), true);
        return super.visitCompoundAssignment(tree, none);
    }

    @Override
    public Void visitThrow(ThrowTree tree, Void none) {
        never("rule 6", tree);
        return null;
    }

    @Override
    public Void visitTry(TryTree tree, Void none) {
        never("rule 6", tree);
        return null;
    }

    @Override
    public Void visitAssert(AssertTree tree, Void none) {
        never("rule 6", tree);
        return null;
    }

    @Override
    public Void visitSynchronized(SynchronizedTree tree, Void none) {
        never("rule 6", tree);
        return null;
    }

    @Override
    public Void visitLambdaExpression(LambdaExpressionTree tree, Void none) {
        never("rule 2", tree);
        return null;
    }

    @Override
    public Void visitMemberReference(MemberReferenceTree tree, Void none) {
        never("rule 2", tree);
        return null;
    }
}
