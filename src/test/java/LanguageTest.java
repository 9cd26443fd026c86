import com.sun.source.tree.AssertTree;
import com.sun.source.tree.ClassTree;
import com.sun.source.tree.CompilationUnitTree;
import com.sun.source.tree.IdentifierTree;
import com.sun.source.tree.ImportTree;
import com.sun.source.tree.LambdaExpressionTree;
import com.sun.source.tree.MemberReferenceTree;
import com.sun.source.tree.MemberSelectTree;
import com.sun.source.tree.MethodInvocationTree;
import com.sun.source.tree.MethodTree;
import com.sun.source.tree.NewClassTree;
import com.sun.source.tree.SynchronizedTree;
import com.sun.source.tree.ThrowTree;
import com.sun.source.tree.Tree;
import com.sun.source.tree.TryTree;
import com.sun.source.tree.VariableTree;
import com.sun.source.util.JavacTask;
import com.sun.source.util.SourcePositions;
import com.sun.source.util.TreeScanner;
import com.sun.source.util.Trees;
import java.io.File;
import java.io.IOException;
import java.util.ArrayList;
import java.util.List;
import java.util.Map;
import java.util.Set;
import java.util.TreeMap;
import java.util.TreeSet;
import javax.lang.model.element.Modifier;
import javax.tools.JavaCompiler;
import javax.tools.StandardJavaFileManager;
import javax.tools.ToolProvider;

/** The rules of LANGUAGE.md that can be counted in the source of the class. */
public final class LanguageTest extends TreeScanner<Void, Void> {
    private static final Set<String> IMPORTS = Set.of("java.util.ArrayList", "java.util.List", "java.util.Arrays",
        "java.util.Iterator", "java.util.NoSuchElementException", "java.util.*");
    private static final Set<String> THROWN = Set.of("IllegalStateException", "IllegalArgumentException",
        "IndexOutOfBoundsException", "ArithmeticException", "UnsupportedOperationException", "NoSuchElementException",
        "RuntimeException");
    // The rules say "some sixty", "some twelve" and "some twenty".
    private static final int LINES = 66;
    private static final int CLASSES = 13;
    private static final int FIELDS = 22;
    /** For each name of a method the names that each method of that name calls. */
    private final Map<String, List<Set<String>>> calls = new TreeMap<>();
    private final CompilationUnitTree unit;
    private final SourcePositions positions;
    private String method = "";
    private Set<String> called = new TreeSet<>();
    private int classes;

    private LanguageTest(CompilationUnitTree unit, SourcePositions positions) {
        this.unit = unit;
        this.positions = positions;
    }

    public static void main(String[] args) throws IOException {
        JavaCompiler compiler = ToolProvider.getSystemJavaCompiler();
        StandardJavaFileManager files = compiler.getStandardFileManager(null, null, null);
        JavacTask task = (JavacTask) compiler.getTask(null, files, null, List.of("--release", "17"), null,
            files.getJavaFileObjects(new File("src/main/java/PlugTree.java")));
        CompilationUnitTree unit = task.parse().iterator().next();
        Check.sentence("LANGUAGE.md");
        LanguageTest rules = new LanguageTest(unit, Trees.instance(task).getSourcePositions());
        rules.scan(unit, null);
        rules.measureAll();
        Check.end();
    }

    private void measureAll() {
        Check.due("no package line", true, unit.getPackageName() == null);
        Check.due("one class in the file", 1, unit.getTypeDecls().size());
        atMost("classes", CLASSES, classes);
        for (String name : calls.keySet()) {
            atMost("calls that stand open at once from " + name, 8, depth(name, new TreeSet<>()));
        }
    }

    /**
     * How deep the calls of a method go within the file, at least: of several methods with a name the one that goes the
     * least deep is taken, and recursion, which has a rule of its own, is left out.
     */
    private int depth(String name, Set<String> open) {
        if (!calls.containsKey(name) || !open.add(name)) {
            return 0;
        }
        int least = Integer.MAX_VALUE;
        for (Set<String> names : calls.get(name)) {
            int deepest = 0;
            for (String next : names) {
                deepest = Math.max(deepest, depth(next, open));
            }
            least = Math.min(least, deepest + 1);
        }
        open.remove(name);
        return least;
    }

    private static void atMost(String what, long most, long found) {
        if (found > most) {
            Check.say(what + ": " + found + " are more than " + most);
        }
    }

    private long line(long position) {
        return unit.getLineMap().getLineNumber(position);
    }

    private void forbidden(String what, Tree tree) {
        Check.say(what + " in line " + line(positions.getStartPosition(unit, tree)));
    }

    @Override
    public Void visitImport(ImportTree tree, Void none) {
        String name = tree.getQualifiedIdentifier().toString();
        Check.due("import of " + name, true, IMPORTS.contains(name) && !tree.isStatic());
        return super.visitImport(tree, none);
    }

    @Override
    public Void visitClass(ClassTree tree, Void none) {
        classes++;
        int fields = 0;
        for (Tree member : tree.getMembers()) {
            if (member.getKind() == Tree.Kind.BLOCK) {
                forbidden("an initialiser block", member);
            }
            if (member instanceof VariableTree field) {
                Set<Modifier> flags = field.getModifiers().getFlags();
                boolean isStatic = flags.contains(Modifier.STATIC);
                fields += isStatic ? 0 : 1;
                Check.due("static and final: " + field.getName(), isStatic, isStatic && flags.contains(Modifier.FINAL));
            }
        }
        atMost("fields of " + tree.getSimpleName(), FIELDS, fields);
        return super.visitClass(tree, none);
    }

    @Override
    public Void visitMethod(MethodTree tree, Void none) {
        String outer = method;
        Set<String> outerCalled = called;
        method = tree.getName().toString();
        called = new TreeSet<>();
        calls.computeIfAbsent(method, m -> new ArrayList<>()).add(called);
        long lines = line(positions.getEndPosition(unit, tree)) - line(positions.getStartPosition(unit, tree)) + 1;
        atMost("lines of " + method, LINES, lines);
        atMost("parameters of " + method, 7, tree.getParameters().size());
        super.visitMethod(tree, none);
        method = outer;
        called = outerCalled;
        return null;
    }

    @Override
    public Void visitMethodInvocation(MethodInvocationTree tree, Void none) {
        Tree selected = tree.getMethodSelect();
        if (selected instanceof MemberSelectTree m) {
            called.add(m.getIdentifier().toString());
        } else if (selected instanceof IdentifierTree i) {
            called.add(i.getName().toString());
        }
        return super.visitMethodInvocation(tree, none);
    }

    @Override
    public Void visitThrow(ThrowTree tree, Void none) {
        boolean written = tree.getExpression() instanceof NewClassTree made
            && THROWN.contains(made.getIdentifier().toString());
        Check.due("throw of a new one that is named", true, written);
        Check.due("no throw in a constructor", false, method.equals("<init>"));
        return super.visitThrow(tree, none);
    }

    @Override
    public Void visitLambdaExpression(LambdaExpressionTree tree, Void none) {
        forbidden("a lambda", tree);
        return null;
    }

    @Override
    public Void visitMemberReference(MemberReferenceTree tree, Void none) {
        forbidden("a method reference", tree);
        return null;
    }

    @Override
    public Void visitTry(TryTree tree, Void none) {
        if (tree.getFinallyBlock() != null || !tree.getResources().isEmpty()) {
            forbidden("finally or resources", tree);
        }
        return super.visitTry(tree, none);
    }

    @Override
    public Void visitSynchronized(SynchronizedTree tree, Void none) {
        forbidden("synchronized", tree);
        return null;
    }

    @Override
    public Void visitAssert(AssertTree tree, Void none) {
        forbidden("assert", tree);
        return null;
    }
}
