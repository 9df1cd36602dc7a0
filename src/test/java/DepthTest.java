import com.sun.source.tree.CompilationUnitTree;
import com.sun.source.tree.MethodInvocationTree;
import com.sun.source.tree.MethodTree;
import com.sun.source.tree.NewClassTree;
import com.sun.source.util.JavacTask;
import com.sun.source.util.TreePathScanner;
import com.sun.source.util.Trees;
import java.io.IOException;
import java.nio.file.Path;
import java.util.ArrayList;
import java.util.HashMap;
import java.util.HashSet;
import java.util.LinkedHashMap;
import java.util.LinkedHashSet;
import java.util.List;
import java.util.Map;
import java.util.Set;
import javax.lang.model.element.Element;
import javax.tools.JavaCompiler;
import javax.tools.StandardJavaFileManager;
import javax.tools.ToolProvider;

/** LANGUAGE.md, rules 8 and 11: who calls whom, as the compiler reads the program; no recursion, and eight deep at most. */
public final class DepthTest {
    private static final Due due = new Due();
    private static final int MOST_DEEP = 8;

    private final Map<Element, Set<Element>> calls = new LinkedHashMap<>();
    private final Map<Element, List<Element>> chains = new HashMap<>();
    private final Set<Element> open = new HashSet<>();

    public static void main(String[] args) throws IOException {
        DepthTest test = new DepthTest();
        test.read(Path.of("src/main/java/TileOffice.java"));
        due.yes("all public methods and more are read", test.calls.size() > 38);
        for (Element method : test.calls.keySet()) {
            List<Element> chain = test.longestFrom(method);
            due.yes("calls go " + chain.size() + " deep: " + told(chain), chain.size() <= MOST_DEEP);
        }
        due.end("DepthTest");
    }

    private void read(Path file) throws IOException {
        JavaCompiler compiler = ToolProvider.getSystemJavaCompiler();
        try (StandardJavaFileManager files = compiler.getStandardFileManager(null, null, null)) {
            JavacTask task = (JavacTask) compiler.getTask(null, files, null, List.of("-proc:none"), null,
                files.getJavaFileObjects(file));
            Trees trees = Trees.instance(task);
            Iterable<? extends CompilationUnitTree> units = task.parse();
            task.analyze();
            for (CompilationUnitTree unit : units) {
                new Reader(trees, calls).scan(unit, null);
            }
        }
    }

    private List<Element> longestFrom(Element method) {
        if (chains.containsKey(method)) {
            return chains.get(method);
        }
        open.add(method);
        List<Element> longest = List.of();
        for (Element next : calls.get(method)) {
            due.no(method + " comes again to " + next, open.contains(next));
            if (calls.containsKey(next) && !open.contains(next)) {
                List<Element> chain = longestFrom(next);
                longest = chain.size() > longest.size() ? chain : longest;
            }
        }
        open.remove(method);
        List<Element> whole = new ArrayList<>(List.of(method));
        whole.addAll(longest);
        chains.put(method, whole);
        return whole;
    }

    private static String told(List<Element> chain) {
        StringBuilder text = new StringBuilder();
        for (Element method : chain) {
            text.append(text.length() == 0 ? "" : " > ").append(method.getEnclosingElement().getSimpleName()).append('.')
                .append(method.getSimpleName());
        }
        return text.toString();
    }

    /** Notes of each method what it calls and makes. */
    private static final class Reader extends TreePathScanner<Void, Void> {
        private final Trees trees;
        private final Map<Element, Set<Element>> calls;
        private Element method;

        Reader(Trees itsTrees, Map<Element, Set<Element>> itsCalls) {
            trees = itsTrees;
            calls = itsCalls;
        }

        @Override
        public Void visitMethod(MethodTree tree, Void nothing) {
            method = trees.getElement(getCurrentPath());
            calls.put(method, new LinkedHashSet<>());
            return super.visitMethod(tree, nothing);
        }

        @Override
        public Void visitMethodInvocation(MethodInvocationTree tree, Void nothing) {
            note();
            return super.visitMethodInvocation(tree, nothing);
        }

        @Override
        public Void visitNewClass(NewClassTree tree, Void nothing) {
            note();
            return super.visitNewClass(tree, nothing);
        }

        private void note() {
            Element called = trees.getElement(getCurrentPath());
            if (method != null && called != null) {
                calls.get(method).add(called);
            }
        }
    }
}
