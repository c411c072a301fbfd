import com.sun.source.tree.AssertTree;
import com.sun.source.tree.ClassTree;
import com.sun.source.tree.CompilationUnitTree;
import com.sun.source.tree.ImportTree;
import com.sun.source.tree.LambdaExpressionTree;
import com.sun.source.tree.MemberReferenceTree;
import com.sun.source.tree.MethodInvocationTree;
import com.sun.source.tree.MethodTree;
import com.sun.source.tree.NewArrayTree;
import com.sun.source.tree.NewClassTree;
import com.sun.source.tree.SynchronizedTree;
import com.sun.source.tree.ThrowTree;
import com.sun.source.tree.Tree;
import com.sun.source.tree.TryTree;
import com.sun.source.tree.TypeCastTree;
import com.sun.source.tree.VariableTree;
import com.sun.source.util.JavacTask;
import com.sun.source.util.TreePathScanner;
import com.sun.source.util.Trees;
import java.nio.file.Path;
import java.util.HashMap;
import java.util.HashSet;
import java.util.List;
import java.util.Map;
import java.util.Set;
import javax.lang.model.element.Element;
import javax.lang.model.element.ElementKind;
import javax.lang.model.element.Modifier;
import javax.tools.JavaCompiler;
import javax.tools.StandardJavaFileManager;
import javax.tools.ToolProvider;

/** What of LANGUAGE.md can be seen in the text of the class. The numbers are its rules'. */
public final class LanguageTest extends TreePathScanner<Void, Void> {
    private static final Set<String> LIBRARY = Set.of("floorDiv", "max", "min");

    private final Trees trees;
    private final CompilationUnitTree unit;
    private final Map<Element, Set<Element>> calls = new HashMap<>();
    private Element inside = null;
    private int classes = 0;
    private int throwsSeen = 0;

    private LanguageTest(Trees trees, CompilationUnitTree unit) {
        this.trees = trees;
        this.unit = unit;
    }

    public static void main(String[] args) throws Exception {
        JavaCompiler compiler = ToolProvider.getSystemJavaCompiler();
        StandardJavaFileManager files = compiler.getStandardFileManager(null, null, null);
        JavacTask task = (JavacTask) compiler.getTask(null, files, null, List.of("-proc:none"), null,
            files.getJavaFileObjects(Path.of("src/main/java/SpanRules.java")));
        CompilationUnitTree unit = task.parse().iterator().next();
        task.analyze();
        LanguageTest test = new LanguageTest(Trees.instance(task), unit);
        test.scan(unit, null);
        test.afterAll();
        Check.end();
    }

    private void afterAll() {
        Check.yes("no package line", unit.getPackage() == null);
        Check.due("public classes", unit.getTypeDecls().size(), 1);
        Check.yes("rule 11: " + classes + " classes", classes <= 12);
        Check.due("rule 6: throws", throwsSeen, 1);
        for (Element method : calls.keySet()) {
            int depth = depth(method, new HashSet<>());
            Check.yes("rule 11: " + depth + " calls deep from " + method, depth <= 8);
        }
    }

    private int depth(Element method, Set<Element> above) {
        if (!above.add(method)) {
            Check.yes("rule 8: recursion at " + method, false);
            return 0;
        }
        int deepest = 0;
        for (Element called : calls.getOrDefault(method, Set.of())) {
            deepest = Math.max(deepest, depth(called, above));
        }
        above.remove(method);
        return deepest + 1;
    }

    private void never(String rule, Tree tree) {
        Check.yes(rule + ": " + tree, false);
    }

    @Override
    public Void visitClass(ClassTree tree, Void v) {
        classes++;
        Set<Modifier> modifiers = tree.getModifiers().getFlags();
        if (!tree.getSimpleName().contentEquals("SpanRules")) {
            Check.yes("rule 1: " + tree.getSimpleName() + " is private and static",
                modifiers.contains(Modifier.PRIVATE) && modifiers.contains(Modifier.STATIC));
        }
        int fields = 0;
        for (Tree member : tree.getMembers()) {
            if (member instanceof VariableTree field) {
                fields += field(field) ? 1 : 0;
            }
            Check.yes("rule 5: no block in " + tree.getSimpleName(), member.getKind() != Tree.Kind.BLOCK);
        }
        Check.yes("rule 11: " + fields + " fields in " + tree.getSimpleName(), fields <= 20);
        return super.visitClass(tree, v);
    }

    /** Whether it is a field of the objects. */
    private boolean field(VariableTree field) {
        Set<Modifier> modifiers = field.getModifiers().getFlags();
        if (!modifiers.contains(Modifier.STATIC)) {
            return true;
        }
        Check.yes("rule 5: " + field.getName() + " is a constant", modifiers.contains(Modifier.FINAL)
            && Set.of("int", "long").contains(field.getType().toString()));
        return false;
    }

    @Override
    public Void visitMethod(MethodTree tree, Void v) {
        Check.yes("rule 11: parameters of " + tree.getName(), tree.getParameters().size() <= 7);
        long from = line(trees.getSourcePositions().getStartPosition(unit, tree));
        long to = line(trees.getSourcePositions().getEndPosition(unit, tree));
        Check.yes("rule 11: lines of " + tree.getName(), to - from < 60);
        Element before = inside;
        inside = trees.getElement(getCurrentPath());
        calls.putIfAbsent(inside, new HashSet<>());
        super.visitMethod(tree, v);
        inside = before;
        return null;
    }

    private long line(long position) {
        return unit.getLineMap().getLineNumber(position);
    }

    @Override
    public Void visitMethodInvocation(MethodInvocationTree tree, Void v) {
        Element called = trees.getElement(getCurrentPath());
        String owner = called.getEnclosingElement().toString();
        if (owner.startsWith("SpanRules")) {
            noteCall(called);
        } else if (called.getKind() == ElementKind.METHOD) {
            boolean isListed = owner.equals("java.lang.Math") && LIBRARY.contains(called.getSimpleName().toString());
            Check.yes("rule 4: " + called + " of " + owner, isListed);
        }
        return super.visitMethodInvocation(tree, v);
    }

    private void noteCall(Element called) {
        if (inside != null) {
            calls.get(inside).add(called);
        }
    }

    @Override
    public Void visitNewClass(NewClassTree tree, Void v) {
        String made = tree.getIdentifier().toString();
        Element constructor = trees.getElement(getCurrentPath());
        boolean isOwn = constructor.getEnclosingElement().toString().startsWith("SpanRules");
        Check.yes("rule 3: new " + made, isOwn || made.equals("ArithmeticException"));
        if (isOwn) {
            noteCall(constructor);
        }
        return super.visitNewClass(tree, v);
    }

    /** Fields and constructors alone make arrays, so that no later call takes room. */
    @Override
    public Void visitNewArray(NewArrayTree tree, Void v) {
        Check.yes("rule 12: an array is made outside of a constructor: " + tree,
            inside == null || inside.getKind() == ElementKind.CONSTRUCTOR);
        return super.visitNewArray(tree, v);
    }

    @Override
    public Void visitThrow(ThrowTree tree, Void v) {
        throwsSeen++;
        Check.yes("rule 6: " + tree, inside != null && inside.getSimpleName().contentEquals("row")
            && tree.toString().matches("(?s)throw new ArithmeticException\\(\"[^\"]*\"\\);?\\s*"));
        return super.visitThrow(tree, v);
    }

    @Override
    public Void visitTypeCast(TypeCastTree tree, Void v) {
        Check.yes("rule 7: " + tree, Set.of("int", "long").contains(tree.getType().toString()));
        return super.visitTypeCast(tree, v);
    }

    @Override
    public Void visitVariable(VariableTree tree, Void v) {
        String type = tree.getType().toString();
        boolean isListed = type.matches("(int|long|boolean)(\\[\\])?") || type.matches("[A-Z]\\w*")
            && trees.getTypeMirror(getCurrentPath()).toString().startsWith("SpanRules.");
        Check.yes("rule 3: " + tree, isListed);
        return super.visitVariable(tree, v);
    }

    @Override
    public Void visitImport(ImportTree tree, Void v) {
        never("rule 4", tree);
        return null;
    }

    @Override
    public Void visitTry(TryTree tree, Void v) {
        never("no exception is caught", tree);
        return null;
    }

    @Override
    public Void visitLambdaExpression(LambdaExpressionTree tree, Void v) {
        never("rule 2", tree);
        return null;
    }

    @Override
    public Void visitMemberReference(MemberReferenceTree tree, Void v) {
        never("rule 2", tree);
        return null;
    }

    @Override
    public Void visitSynchronized(SynchronizedTree tree, Void v) {
        never("rule 6", tree);
        return null;
    }

    @Override
    public Void visitAssert(AssertTree tree, Void v) {
        never("rule 6", tree);
        return null;
    }
}
