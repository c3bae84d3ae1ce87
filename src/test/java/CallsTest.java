import com.sun.source.tree.CompilationUnitTree;
import com.sun.source.tree.MethodInvocationTree;
import com.sun.source.tree.MethodTree;
import com.sun.source.tree.NewClassTree;
import com.sun.source.util.JavacTask;
import com.sun.source.util.TreePathScanner;
import com.sun.source.util.Trees;
import java.io.IOException;
import java.nio.file.Path;
import java.util.ArrayList;
import java.util.HashSet;
import java.util.LinkedHashMap;
import java.util.List;
import java.util.Map;
import java.util.Set;
import javax.lang.model.element.Element;
import javax.lang.model.element.Modifier;
import javax.tools.JavaCompiler;
import javax.tools.StandardJavaFileManager;
import javax.tools.ToolProvider;

/** How deep calls go and which come again, by LANGUAGE.md, rules 8 and 11. Runs in the project's folder. */
public final class CallsTest {
    private static final Path SOURCE = Path.of("src/main/java/AlarmsOfFondness.java");
    private static final int DEEPEST = 8;

    /** Of each method or constructor in the file what it calls; of the library nothing is known. */
    private final Map<Element, Set<Element>> calls = new LinkedHashMap<>();
    private final Map<Element, Set<Element>> reached = new LinkedHashMap<>();
    private final Map<Element, Integer> depths = new LinkedHashMap<>();

    public static void main(String[] args) throws IOException {
        Checks checks = new Checks("CallsTest");
        CallsTest test = new CallsTest();
        test.read();
        test.recursion(checks);
        test.depth(checks);
        checks.end();
    }

    private void read() throws IOException {
        JavaCompiler compiler = ToolProvider.getSystemJavaCompiler();
        try (StandardJavaFileManager files = compiler.getStandardFileManager(null, null, null)) {
            JavacTask task = (JavacTask) compiler.getTask(null, files, null,
                    List.of("--release", "17", "-proc:none"), null, files.getJavaFileObjects(SOURCE));
            Iterable<? extends CompilationUnitTree> units = task.parse();
            task.analyze();
            Trees trees = Trees.instance(task);
            for (CompilationUnitTree unit : units) {
                new Scanner(trees).scan(unit, null);
            }
        }
        for (Element method : calls.keySet()) {
            reached.put(method, reachedFrom(method));
        }
    }

    private final class Scanner extends TreePathScanner<Void, Void> {
        private final Trees trees;
        private Element inside;

        Scanner(Trees trees) {
            this.trees = trees;
        }

        @Override
        public Void visitMethod(MethodTree method, Void nothing) {
            inside = trees.getElement(getCurrentPath());
            calls.put(inside, new HashSet<>());
            super.visitMethod(method, nothing);
            inside = null;
            return null;
        }

        @Override
        public Void visitMethodInvocation(MethodInvocationTree call, Void nothing) {
            add();
            return super.visitMethodInvocation(call, nothing);
        }

        @Override
        public Void visitNewClass(NewClassTree made, Void nothing) {
            add();
            return super.visitNewClass(made, nothing);
        }

        private void add() {
            if (inside != null) {
                calls.get(inside).add(trees.getElement(getCurrentPath()));
            }
        }
    }

    private Set<Element> reachedFrom(Element method) {
        Set<Element> all = new HashSet<>();
        List<Element> todo = new ArrayList<>(calls.get(method));
        while (!todo.isEmpty()) {
            Element next = todo.remove(todo.size() - 1);
            if (all.add(next) && calls.containsKey(next)) {
                todo.addAll(calls.get(next));
            }
        }
        return all;
    }

    private boolean inOneRing(Element one, Element other) {
        return one.equals(other) || calls.containsKey(other) && reached.get(one).contains(other)
                && reached.get(other).contains(one);
    }

    private void recursion(Checks checks) {
        int found = 0;
        for (Element method : calls.keySet()) {
            if (!reached.get(method).contains(method)) {
                continue;
            }
            found++;
            checks.holds(method + " calls itself and is private", method.getModifiers().contains(Modifier.PRIVATE));
            boolean alone = true;
            for (Element other : calls.keySet()) {
                alone &= other.equals(method) || !inOneRing(method, other);
            }
            checks.holds(method + " calls itself alone and is static",
                    !alone || method.getModifiers().contains(Modifier.STATIC));
        }
        checks.holds("OTHERS and the grammar call themselves: " + found, found > 1);
    }

    private void depth(Checks checks) {
        int deepest = 0;
        for (Element method : calls.keySet()) {
            if (method.getModifiers().contains(Modifier.PUBLIC)) {
                int depth = depthOf(method);
                checks.holds(method + " goes " + depth + " deep", depth <= DEEPEST);
                deepest = Math.max(deepest, depth);
            }
        }
        checks.holds("calls were followed: " + deepest, deepest > 3);
    }

    /** How many calls stand open at once behind this one, with it; a ring of methods that come again is one. */
    private int depthOf(Element method) {
        Integer known = depths.get(method);
        if (known != null) {
            return known;
        }
        int below = 0;
        for (Element inRing : calls.containsKey(method) ? calls.keySet() : Set.<Element>of()) {
            if (inOneRing(method, inRing)) {
                for (Element next : calls.get(inRing)) {
                    if (!inOneRing(method, next)) {
                        below = Math.max(below, depthOf(next));
                    }
                }
            }
        }
        depths.put(method, below + 1);
        return below + 1;
    }
}
