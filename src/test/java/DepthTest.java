import com.sun.source.tree.ClassTree;
import com.sun.source.tree.CompilationUnitTree;
import com.sun.source.tree.MethodInvocationTree;
import com.sun.source.tree.MethodTree;
import com.sun.source.util.JavacTask;
import com.sun.source.util.TreePath;
import com.sun.source.util.TreePathScanner;
import com.sun.source.util.Trees;
import java.io.IOException;
import java.nio.file.Path;
import java.util.HashSet;
import java.util.LinkedHashMap;
import java.util.Map;
import java.util.Set;
import java.util.TreeSet;
import javax.lang.model.element.Element;
import javax.lang.model.element.ElementKind;
import javax.tools.JavaCompiler;
import javax.tools.StandardJavaFileManager;
import javax.tools.ToolProvider;

/** How deep calls go, and how large methods' heads and classes are (LANGUAGE.md, rules 8 and 11). */
public final class DepthTest {
    private static final int DEEPEST = 8;
    private static final int MOST_PARAMETERS = 7;
    private static final int MOST_FIELDS = 20;
    private static final int MOST_CLASSES = 12;
    private static final Set<String> RECURSIVE = Set.of("bestByTrying");

    private final Map<Element, Set<Element>> calls = new LinkedHashMap<>();
    private int classes = 0;

    public static void main(String[] args) throws IOException {
        DepthTest test = new DepthTest();
        test.read(Path.of("src/main/java/HerdCords.java"));
        test.depths();
        Check.same("some twelve classes at most", test.classes <= MOST_CLASSES ? 1 : 0, 1);
        Check.end();
    }

    private void read(Path file) throws IOException {
        JavaCompiler compiler = ToolProvider.getSystemJavaCompiler();
        try (StandardJavaFileManager files = compiler.getStandardFileManager(null, null, null)) {
            JavacTask task = (JavacTask) compiler.getTask(null, files, null, null, null, files.getJavaFileObjects(file));
            Iterable<? extends CompilationUnitTree> units = task.parse();
            task.analyze();
            for (CompilationUnitTree unit : units) {
                new Reader(Trees.instance(task)).scan(unit, null);
            }
        }
    }

    private final class Reader extends TreePathScanner<Void, Void> {
        private final Trees trees;
        private Element inside = null;

        Reader(Trees trees) {
            this.trees = trees;
        }

        @Override
        public Void visitClass(ClassTree tree, Void nothing) {
            classes++;
            Element element = trees.getElement(getCurrentPath());
            long fields = element.getEnclosedElements().stream().filter(one -> one.getKind() == ElementKind.FIELD
                && !one.getModifiers().contains(javax.lang.model.element.Modifier.STATIC)).count();
            if (fields > MOST_FIELDS) {
                Check.fail(fields + " fields in " + element);
            }
            return super.visitClass(tree, nothing);
        }

        @Override
        public Void visitMethod(MethodTree tree, Void nothing) {
            inside = trees.getElement(getCurrentPath());
            calls.putIfAbsent(inside, new HashSet<>());
            if (tree.getParameters().size() > MOST_PARAMETERS) {
                Check.fail("too many parameters: " + inside);
            }
            Void answer = super.visitMethod(tree, nothing);
            inside = null;
            return answer;
        }

        @Override
        public Void visitMethodInvocation(MethodInvocationTree tree, Void nothing) {
            Element called = trees.getElement(new TreePath(getCurrentPath(), tree.getMethodSelect()));
            if (inside != null && called != null) {
                calls.get(inside).add(called);
            }
            return super.visitMethodInvocation(tree, nothing);
        }
    }

    private void depths() {
        Set<String> recursive = new TreeSet<>();
        int deepest = 0;
        for (Element method : calls.keySet()) {
            int depth = depth(method, new HashSet<>(), recursive);
            deepest = Math.max(deepest, depth);
            if (depth > DEEPEST) {
                Check.fail(depth + " calls deep: " + method);
            }
        }
        Check.same("calls were found", deepest > 3 ? 1 : 0, 1);
        if (!recursive.equals(RECURSIVE)) {
            Check.fail("recursive are " + recursive + ", due are " + RECURSIVE);
        }
    }

    private int depth(Element method, Set<Element> open, Set<String> recursive) {
        if (!calls.containsKey(method)) {
            return 0;
        }
        open.add(method);
        int below = 0;
        for (Element called : calls.get(method)) {
            if (open.contains(called)) {
                recursive.add(called.getSimpleName().toString());
            } else {
                below = Math.max(below, depth(called, open, recursive));
            }
        }
        open.remove(method);
        return below + 1;
    }
}
