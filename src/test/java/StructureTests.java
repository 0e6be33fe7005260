import com.sun.source.tree.ClassTree;
import com.sun.source.tree.CompilationUnitTree;
import com.sun.source.tree.ExpressionTree;
import com.sun.source.tree.LineMap;
import com.sun.source.tree.MethodInvocationTree;
import com.sun.source.tree.MethodTree;
import com.sun.source.tree.NewArrayTree;
import com.sun.source.tree.NewClassTree;
import com.sun.source.tree.Tree;
import com.sun.source.tree.VariableTree;
import com.sun.source.util.JavacTask;
import com.sun.source.util.SourcePositions;
import com.sun.source.util.TreePath;
import com.sun.source.util.TreePathScanner;
import com.sun.source.util.Trees;
import java.io.IOException;
import java.nio.file.Path;
import java.util.ArrayList;
import java.util.HashMap;
import java.util.HashSet;
import java.util.List;
import java.util.Map;
import java.util.Set;
import java.util.TreeSet;
import javax.lang.model.element.Element;
import javax.lang.model.element.ElementKind;
import javax.lang.model.element.ExecutableElement;
import javax.lang.model.element.Modifier;
import javax.tools.JavaCompiler;
import javax.tools.StandardJavaFileManager;
import javax.tools.ToolProvider;

/**
 * Rules of LANGUAGE.md that need the code understood, not only read: which methods call which,
 * what of the library is used, which types stand there, where objects are made. The compiler's
 * own trees tell it.
 */
public final class StructureTests extends TreePathScanner<Void, Void> {

    private static final Checks CHECKS = new Checks();
    private static final int DEEPEST = 8;
    private static final int LONGEST = 60;
    private static final Set<String> LIBRARY = Set.of("Math.max(int,int)", "Math.min(int,int)",
            "Math.floorMod(long,long)", "System.arraycopy(Object,int,Object,int,int)");
    private static final Set<String> EXCEPTIONS = Set.of("ArrayIndexOutOfBoundsException",
            "IllegalArgumentException", "IllegalStateException", "ArithmeticException");
    private static final Set<String> TYPES = Set.of("int", "long", "boolean", "int[]", "boolean[]",
            "int[][]");

    private final Trees trees;
    private final SourcePositions positions;
    private final Map<Element, Set<Element>> calls = new HashMap<>();
    private final Set<Element> face = new HashSet<>();

    private StructureTests(Trees trees) {
        this.trees = trees;
        positions = trees.getSourcePositions();
    }

    public static void main(String[] args) throws IOException {
        JavaCompiler compiler = ToolProvider.getSystemJavaCompiler();
        try (StandardJavaFileManager files = compiler.getStandardFileManager(null, null, null)) {
            JavacTask task = (JavacTask) compiler.getTask(null, files, null,
                    List.of("-proc:none"), null,
                    files.getJavaFileObjects(Path.of("src/main/java/RecurrenceAnswers.java")));
            Iterable<? extends CompilationUnitTree> units = task.parse();
            task.analyze();
            StructureTests scan = new StructureTests(Trees.instance(task));
            for (CompilationUnitTree unit : units) {
                scan.scan(unit, null);
            }
            scan.checkDepths();
        }
        CHECKS.finish();
    }

    // What the scan meets

    @Override
    public Void visitMethod(MethodTree method, Void none) {
        Element element = trees.getElement(getCurrentPath());
        calls.computeIfAbsent(element, e -> new HashSet<>());
        if (element.getModifiers().contains(Modifier.PUBLIC)) {
            face.add(element);
        }
        CompilationUnitTree unit = getCurrentPath().getCompilationUnit();
        LineMap lines = unit.getLineMap();
        long from = positions.getStartPosition(unit, method);
        if (from >= 0 && positions.getEndPosition(unit, method) > from) {
            long length = lines.getLineNumber(positions.getEndPosition(unit, method))
                    - lines.getLineNumber(from) + 1;
            CHECKS.yes("rule 11: " + element + " has " + length + " lines", length <= LONGEST);
        }
        return super.visitMethod(method, none);
    }

    @Override
    public Void visitMethodInvocation(MethodInvocationTree call, Void none) {
        Element called = trees.getElement(new TreePath(getCurrentPath(), call.getMethodSelect()));
        if (isOwn(called)) {
            noteCall(called);
        } else if (called.getKind() == ElementKind.METHOD) {
            String name = called.getEnclosingElement().getSimpleName() + "."
                    + called.toString().replace("java.lang.", "");
            CHECKS.yes("rule 4: " + name, LIBRARY.contains(name));
        }
        return super.visitMethodInvocation(call, none);
    }

    @Override
    public Void visitNewClass(NewClassTree made, Void none) {
        Element constructor = trees.getElement(getCurrentPath());
        String name = constructor.getEnclosingElement().getSimpleName().toString();
        MethodTree method = enclosingMethod();
        boolean constructing = method == null || method.getReturnType() == null;
        if (constructing) {
            CHECKS.yes("rule 6: no exception is made in a constructor", isOwn(constructor));
            for (ExpressionTree argument : made.getArguments()) {
                Element handed = trees.getElement(new TreePath(getCurrentPath(), argument));
                CHECKS.no("rule 12: a constructor hands out " + argument,
                        handed != null && handed.getKind() == ElementKind.FIELD
                        && !handed.getModifiers().contains(Modifier.STATIC));
            }
        } else {
            CHECKS.yes("rule 6, rule 12: a call makes " + name, EXCEPTIONS.contains(name));
            boolean thrown = getCurrentPath().getParentPath().getLeaf().getKind()
                    == Tree.Kind.THROW;
            CHECKS.yes("rule 6: " + name + " is thrown where it is made", thrown);
        }
        if (isOwn(constructor)) {
            noteCall(constructor);
        }
        return super.visitNewClass(made, none);
    }

    @Override
    public Void visitNewArray(NewArrayTree made, Void none) {
        MethodTree method = enclosingMethod();
        CHECKS.yes("rule 12: no call makes an array: " + made,
                method == null || method.getReturnType() == null);
        return super.visitNewArray(made, none);
    }

    @Override
    public Void visitVariable(VariableTree variable, Void none) {
        String type = trees.getElement(getCurrentPath()).asType().toString();
        boolean own = type.matches("RecurrenceAnswers\\.\\w+(\\[\\])?");
        CHECKS.yes("rule 3: " + type + " " + variable.getName(), own || TYPES.contains(type));
        return super.visitVariable(variable, none);
    }

    private MethodTree enclosingMethod() {
        for (Tree tree : getCurrentPath()) {
            if (tree instanceof MethodTree method) {
                return method;
            }
            if (tree instanceof ClassTree) {
                return null;
            }
        }
        return null;
    }

    private static boolean isOwn(Element called) {
        for (Element e = called; e != null; e = e.getEnclosingElement()) {
            if (e.getSimpleName().contentEquals("RecurrenceAnswers")) {
                return true;
            }
        }
        return false;
    }

    private void noteCall(Element called) {
        MethodTree method = enclosingMethod();
        if (method == null) {
            return;
        }
        TreePath path = getCurrentPath();
        while (path.getLeaf() != method) {
            path = path.getParentPath();
        }
        calls.computeIfAbsent(trees.getElement(path), e -> new HashSet<>()).add(called);
    }

    // Rules 8 and 11: no recursion, and calls at most eight deep

    private void checkDepths() {
        CHECKS.equal("the constructor and 17 methods of the face", face.size(), 18);
        for (Element each : face) {
            Set<String> recursions = new TreeSet<>();
            int depth = depth(each, List.of(), recursions);
            CHECKS.yes("rule 11: " + each + " goes " + depth + " deep", depth <= DEEPEST);
            CHECKS.yes("rule 8: " + each + " needs no recursion: " + recursions,
                    recursions.isEmpty());
        }
    }

    private int depth(Element method, List<Element> open, Set<String> recursions) {
        if (open.contains(method)) {
            recursions.add(method.toString());
            return DEEPEST + 1;
        }
        List<Element> path = new ArrayList<>(open);
        path.add(method);
        int deepest = 0;
        for (Element called : calls.getOrDefault(method, Set.of())) {
            if (called instanceof ExecutableElement) {
                deepest = Math.max(deepest, depth(called, path, recursions));
            }
        }
        return deepest + 1;
    }
}
