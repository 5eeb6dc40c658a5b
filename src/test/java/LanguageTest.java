import com.sun.source.tree.AssertTree;
import com.sun.source.tree.ClassTree;
import com.sun.source.tree.CompilationUnitTree;
import com.sun.source.tree.ImportTree;
import com.sun.source.tree.LambdaExpressionTree;
import com.sun.source.tree.MemberReferenceTree;
import com.sun.source.tree.MethodInvocationTree;
import com.sun.source.tree.MethodTree;
import com.sun.source.tree.NewClassTree;
import com.sun.source.tree.SynchronizedTree;
import com.sun.source.tree.Tree;
import com.sun.source.tree.TryTree;
import com.sun.source.tree.VariableTree;
import com.sun.source.util.JavacTask;
import com.sun.source.util.TreePathScanner;
import com.sun.source.util.Trees;
import java.nio.file.Path;
import java.util.HashMap;
import java.util.List;
import java.util.Map;
import java.util.Set;
import java.util.TreeSet;
import javax.lang.model.element.Element;
import javax.lang.model.element.Modifier;
import javax.tools.JavaCompiler;
import javax.tools.StandardJavaFileManager;
import javax.tools.ToolProvider;

/** Rules of LANGUAGE.md that the compiler's own tree of the class can tell. */
public final class LanguageTest extends TreePathScanner<Void, Void> {
    private static final Set<String> LIBRARY = Set.of(
            "java.lang.Math.min", "java.lang.Math.max", "java.lang.Math.abs", "java.lang.Integer.bitCount",
            "java.lang.System.arraycopy", "java.util.Arrays.fill",
            "java.lang.String.length", "java.lang.String.charAt", "java.lang.Object.<init>");
    private static final Set<String> EXCEPTIONS = Set.of(
            "IllegalStateException", "IllegalArgumentException", "IndexOutOfBoundsException");

    private static final Set<String> FACE = face();

    private final Trees trees;
    private final CompilationUnitTree unit;
    private final Map<String, Set<String>> calls = new HashMap<>();
    private String method = "";
    private int classes = 0;

    private LanguageTest(Trees trees, CompilationUnitTree unit) {
        this.trees = trees;
        this.unit = unit;
    }

    public static void main(String[] args) throws Exception {
        JavaCompiler compiler = ToolProvider.getSystemJavaCompiler();
        try (StandardJavaFileManager files = compiler.getStandardFileManager(null, null, null)) {
            JavacTask task = (JavacTask) compiler.getTask(null, files, null, List.of("-proc:none"), null,
                    files.getJavaFileObjects(Path.of("src/main/java/BikeShare.java")));
            CompilationUnitTree unit = task.parse().iterator().next();
            task.analyze();
            LanguageTest look = new LanguageTest(Trees.instance(task), unit);
            look.scan(unit, null);
            Check.due("at most twelve classes", look.classes <= 12, true);
            for (String name : look.calls.keySet()) {
                int depth = look.depth(name, new TreeSet<>());
                Check.due("calls below " + name + " are " + depth + " deep", depth <= 8, true);
            }
            String text = unit.getSourceFile().getCharContent(true).toString();
            Check.due("only ASCII", text.chars().allMatch(c -> c == '\n' || c >= 32 && c < 127), true);
        }
        Check.end("LanguageTest");
    }

    private static Set<String> face() {
        Set<String> names = new TreeSet<>();
        for (java.lang.reflect.Method shown : BikeShare.class.getMethods()) {
            names.add(shown.getName());
        }
        return names;
    }

    /** The calls open at once, a method that calls itself counting once. */
    private int depth(String name, Set<String> open) {
        int deepest = 0;
        open.add(name);
        for (String called : calls.getOrDefault(name, Set.of())) {
            if (!open.contains(called)) {
                deepest = Math.max(deepest, depth(called, open));
            } else {
                Check.due("only visit calls itself: " + called, called.endsWith("Tour.visit"), true);
            }
        }
        open.remove(name);
        return deepest + 1;
    }

    private void refuse(String what, Tree tree) {
        long line = unit.getLineMap().getLineNumber(
                trees.getSourcePositions().getStartPosition(unit, tree));
        Check.due("line " + line + ": " + what, 1, 0);
    }

    private int lines(Tree tree) {
        long start = trees.getSourcePositions().getStartPosition(unit, tree);
        long end = trees.getSourcePositions().getEndPosition(unit, tree);
        return (int) (unit.getLineMap().getLineNumber(end) - unit.getLineMap().getLineNumber(start)) + 1;
    }

    private static String nameOf(Element element) {
        return element.getEnclosingElement() + "." + element.getSimpleName();
    }

    @Override
    public Void visitImport(ImportTree tree, Void nothing) {
        Check.due("import", tree.getQualifiedIdentifier().toString().equals("java.util.Arrays"), true);
        return null;
    }

    @Override
    public Void visitClass(ClassTree tree, Void nothing) {
        classes++;
        int fields = 0;
        for (Tree member : tree.getMembers()) {
            if (member instanceof VariableTree field) {
                boolean isStatic = field.getModifiers().getFlags().contains(Modifier.STATIC);
                boolean isFinal = field.getModifiers().getFlags().contains(Modifier.FINAL);
                fields += isStatic ? 0 : 1;
                Check.due("static only if a constant: " + field.getName(), !isStatic || isFinal, true);
            } else if (!(member instanceof MethodTree) && !(member instanceof ClassTree)) {
                refuse("an initialiser block", member);
            }
        }
        Check.due("fields of " + tree.getSimpleName() + " are " + fields, fields <= 20, true);
        if (classes > 1) {
            Check.due("static and private: " + tree.getSimpleName(),
                    tree.getModifiers().getFlags().containsAll(Set.of(Modifier.STATIC, Modifier.PRIVATE)), true);
        }
        return super.visitClass(tree, null);
    }

    @Override
    public Void visitMethod(MethodTree tree, Void nothing) {
        String outer = method;
        method = nameOf(trees.getElement(getCurrentPath()));
        calls.putIfAbsent(method, new TreeSet<>());
        boolean shown = tree.getModifiers().getFlags().contains(Modifier.PUBLIC);
        if (!shown) {
            Check.due("no name of the face: " + method, FACE.contains(tree.getName().toString()), false);
        }
        Check.due("parameters of " + method, tree.getParameters().size() <= 7, true);
        Check.due("lines of " + method, lines(tree) <= 60, true);
        super.visitMethod(tree, null);
        method = outer;
        return null;
    }

    @Override
    public Void visitMethodInvocation(MethodInvocationTree tree, Void nothing) {
        String called = nameOf(trees.getElement(getCurrentPath()));
        if (!called.startsWith("BikeShare")) {
            Check.due("in the library's list: " + called, LIBRARY.contains(called), true);
        }
        calls.computeIfAbsent(method, name -> new TreeSet<>()).add(called);
        return super.visitMethodInvocation(tree, null);
    }

    @Override
    public Void visitNewClass(NewClassTree tree, Void nothing) {
        String made = tree.getIdentifier().toString();
        Element constructor = trees.getElement(getCurrentPath());
        if (constructor.getEnclosingElement().toString().startsWith("BikeShare")) {
            calls.computeIfAbsent(method, name -> new TreeSet<>()).add(nameOf(constructor));
        } else {
            Check.due("an exception of the document: " + made, EXCEPTIONS.contains(made), true);
            Check.due("not in a constructor: " + made, method.endsWith("<init>"), false);
        }
        return super.visitNewClass(tree, null);
    }

    @Override
    public Void visitLambdaExpression(LambdaExpressionTree tree, Void nothing) {
        refuse("a lambda", tree);
        return null;
    }

    @Override
    public Void visitMemberReference(MemberReferenceTree tree, Void nothing) {
        refuse("a method reference", tree);
        return null;
    }

    @Override
    public Void visitTry(TryTree tree, Void nothing) {
        refuse("a try, where none is needed", tree);
        return null;
    }

    @Override
    public Void visitSynchronized(SynchronizedTree tree, Void nothing) {
        refuse("synchronized", tree);
        return null;
    }

    @Override
    public Void visitAssert(AssertTree tree, Void nothing) {
        refuse("assert", tree);
        return null;
    }
}
