import com.sun.source.tree.BinaryTree;
import com.sun.source.tree.CatchTree;
import com.sun.source.tree.ClassTree;
import com.sun.source.tree.CompilationUnitTree;
import com.sun.source.tree.IdentifierTree;
import com.sun.source.tree.LambdaExpressionTree;
import com.sun.source.tree.MemberReferenceTree;
import com.sun.source.tree.MemberSelectTree;
import com.sun.source.tree.MethodInvocationTree;
import com.sun.source.tree.MethodTree;
import com.sun.source.tree.NewClassTree;
import com.sun.source.tree.ThrowTree;
import com.sun.source.tree.Tree;
import com.sun.source.util.JavacTask;
import com.sun.source.util.TreePathScanner;
import com.sun.source.util.Trees;
import java.io.IOException;
import java.nio.file.Path;
import java.util.HashMap;
import java.util.List;
import java.util.Map;
import java.util.TreeMap;
import java.util.TreeSet;
import javax.lang.model.element.Element;
import javax.lang.model.element.ElementKind;
import javax.lang.model.element.TypeElement;
import javax.tools.JavaCompiler;
import javax.tools.StandardJavaFileManager;
import javax.tools.ToolProvider;

/** What javac understands of the program: its methods, what each calls, and what it uses of the library. */
final class Program extends TreePathScanner<Void, Void> {
    /** By methods of the program, constructors too: what each calls, and how many lines it has. */
    final Map<String, TreeSet<String>> calls = new TreeMap<>();
    final Map<String, Integer> lengths = new TreeMap<>();
    /** Types that are named, and fields of the library that are used. */
    final TreeSet<String> types = new TreeSet<>();
    final TreeSet<String> fields = new TreeSet<>();
    /** Lambdas, references to methods, joined texts, catches, throws in a constructor: where and what. */
    final TreeSet<String> ruledOut = new TreeSet<>();
    private final Map<String, Integer> depths = new HashMap<>();
    private final Trees trees;
    private final CompilationUnitTree unit;
    private String method = "";

    Program(Path file) throws IOException {
        JavaCompiler compiler = ToolProvider.getSystemJavaCompiler();
        try (StandardJavaFileManager files = compiler.getStandardFileManager(null, null, null)) {
            JavacTask task = (JavacTask) compiler.getTask(null, files, null, List.of("-proc:none"), null,
                    files.getJavaFileObjects(file));
            unit = task.parse().iterator().next();
            task.analyze();
            trees = Trees.instance(task);
            scan(unit, null);
        }
    }

    private Element element() {
        return trees.getElement(getCurrentPath());
    }

    private static String nameOf(Element element) {
        TypeElement owner = (TypeElement) element.getEnclosingElement();
        return owner.getQualifiedName() + "." + element;
    }

    private long lineOf(long position) {
        return unit.getLineMap().getLineNumber(position);
    }

    private void ruleOut(Tree tree, String what) {
        ruledOut.add("line " + lineOf(trees.getSourcePositions().getStartPosition(unit, tree)) + ": " + what);
    }

    @Override
    public Void visitMethod(MethodTree tree, Void nothing) {
        long first = trees.getSourcePositions().getStartPosition(unit, tree);
        long last = trees.getSourcePositions().getEndPosition(unit, tree);
        method = nameOf(element());
        calls.put(method, new TreeSet<>());
        lengths.put(method, (int) (lineOf(last) - lineOf(first)) + 1);
        return super.visitMethod(tree, nothing);
    }

    @Override
    public Void visitClass(ClassTree tree, Void nothing) {
        method = "";
        return super.visitClass(tree, nothing);
    }

    @Override
    public Void visitMethodInvocation(MethodInvocationTree tree, Void nothing) {
        noteCall();
        return super.visitMethodInvocation(tree, nothing);
    }

    @Override
    public Void visitNewClass(NewClassTree tree, Void nothing) {
        noteCall();
        return super.visitNewClass(tree, nothing);
    }

    private void noteCall() {
        if (calls.containsKey(method)) {
            calls.get(method).add(nameOf(element()));
        }
    }

    @Override
    public Void visitIdentifier(IdentifierTree tree, Void nothing) {
        noteUse();
        return super.visitIdentifier(tree, nothing);
    }

    @Override
    public Void visitMemberSelect(MemberSelectTree tree, Void nothing) {
        noteUse();
        return super.visitMemberSelect(tree, nothing);
    }

    private void noteUse() {
        Element used = element();
        if (used instanceof TypeElement type) {
            types.add(type.getQualifiedName().toString());
        } else if (used != null && used.getKind() == ElementKind.FIELD
                && used.getEnclosingElement() instanceof TypeElement owner) {
            boolean isOwn = owner.getQualifiedName().toString().startsWith("Stratalog");
            boolean isLength = used.getSimpleName().contentEquals("length");
            if (!isOwn && !isLength) {
                fields.add(nameOf(used));
            }
        }
    }

    @Override
    public Void visitThrow(ThrowTree tree, Void nothing) {
        if (method.endsWith(")") && lastName(method).startsWith(lastName(ownerOf(method)) + "(")) {
            ruleOut(tree, "a throw in a constructor");
        }
        return super.visitThrow(tree, nothing);
    }

    private static String ownerOf(String method) {
        String upToArguments = method.substring(0, method.indexOf('('));
        return upToArguments.substring(0, upToArguments.lastIndexOf('.'));
    }

    private static String lastName(String name) {
        int end = name.indexOf('(') < 0 ? name.length() : name.indexOf('(');
        return name.substring(name.substring(0, end).lastIndexOf('.') + 1);
    }

    @Override
    public Void visitBinary(BinaryTree tree, Void nothing) {
        boolean isText = trees.getTypeMirror(getCurrentPath()).toString().equals("java.lang.String");
        if (isText && tree.getKind() == Tree.Kind.PLUS) {
            ruleOut(tree, "a text joined by +");
        }
        return super.visitBinary(tree, nothing);
    }

    @Override
    public Void visitLambdaExpression(LambdaExpressionTree tree, Void nothing) {
        ruleOut(tree, "a lambda");
        return super.visitLambdaExpression(tree, nothing);
    }

    @Override
    public Void visitMemberReference(MemberReferenceTree tree, Void nothing) {
        ruleOut(tree, "a reference to a method");
        return super.visitMemberReference(tree, nothing);
    }

    @Override
    public Void visitCatch(CatchTree tree, Void nothing) {
        ruleOut(tree, "a catch, of which the program needs none");
        return super.visitCatch(tree, nothing);
    }

    /** What is called that is not the program's own. */
    TreeSet<String> outside() {
        TreeSet<String> others = new TreeSet<>();
        calls.values().forEach(others::addAll);
        others.removeIf(name -> name.startsWith("Stratalog"));
        return others;
    }

    /** How many calls stand open at most, the library's own one counting; more than 1000, if some come back. */
    int depthOf(String called) {
        if (!calls.containsKey(called)) {
            return 1;
        }
        Integer known = depths.get(called);
        if (known == null) {
            depths.put(called, 1001);
            int deepest = calls.get(called).stream().mapToInt(this::depthOf).max().orElse(0);
            known = deepest + 1;
            depths.put(called, known);
        }
        return known;
    }
}
