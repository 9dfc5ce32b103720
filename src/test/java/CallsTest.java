import com.sun.source.tree.ClassTree;
import com.sun.source.tree.MethodInvocationTree;
import com.sun.source.tree.MethodTree;
import com.sun.source.tree.NewClassTree;
import com.sun.source.util.JavacTask;
import com.sun.source.util.TreePathScanner;
import com.sun.source.util.Trees;
import java.io.IOException;
import java.util.HashMap;
import java.util.List;
import java.util.Map;
import java.util.Set;
import java.util.TreeMap;
import java.util.TreeSet;
import javax.lang.model.element.Element;
import javax.lang.model.element.ExecutableElement;
import javax.lang.model.element.Modifier;
import javax.tools.JavaCompiler;
import javax.tools.StandardJavaFileManager;
import javax.tools.ToolProvider;

/** The rules of LANGUAGE.md on calls, by the compiler's own tree: who calls whom, how deep, what of the library. */
public final class CallsTest {
    private static final String SOURCE = "src/main/java/LockWives.java";
    private static final int DEEPEST = 8;
    private static final Set<String> LIBRARY = Set.of("java.lang.String.length", "java.lang.String.charAt",
        "java.lang.String.indexOf", "java.lang.Math.max", "java.lang.Math.min", "java.lang.Integer.bitCount",
        "java.lang.Integer.compare", "java.lang.System.arraycopy", "java.util.Arrays.fill", "java.lang.Object.<init>");

    /** Method by method what it calls itself; the library's methods are not in it. */
    private final Map<String, Set<String>> calls = new TreeMap<>();
    private final Map<String, Boolean> isPrivate = new HashMap<>();
    private final Map<String, Integer> depths = new HashMap<>();

    public static void main(String[] args) throws IOException {
        Check.part("calls");
        CallsTest test = new CallsTest();
        test.read();
        test.library();
        test.recursion();
        test.depth();
        Check.finish("CallsTest");
    }

    private static String name(Element method) {
        return method.getEnclosingElement() + "." + method.getSimpleName();
    }

    private void read() throws IOException {
        JavaCompiler compiler = ToolProvider.getSystemJavaCompiler();
        try (StandardJavaFileManager files = compiler.getStandardFileManager(null, null, null)) {
            JavacTask task = (JavacTask) compiler.getTask(null, files, null, List.of("-proc:none"), null,
                files.getJavaFileObjects(SOURCE));
            var units = task.parse();
            task.analyze();
            Reader reader = new Reader(Trees.instance(task));
            units.forEach(unit -> reader.scan(unit, null));
        }
    }

    private final class Reader extends TreePathScanner<Void, Void> {
        private final Trees trees;
        private String method = "";

        Reader(Trees trees) {
            this.trees = trees;
        }

        @Override
        public Void visitClass(ClassTree tree, Void nothing) {
            String outer = method;
            // What a field's first value calls is called by the constructor.
            method = trees.getElement(getCurrentPath()) + ".<init>";
            calls.putIfAbsent(method, new TreeSet<>());
            super.visitClass(tree, nothing);
            method = outer;
            return null;
        }

        @Override
        public Void visitMethod(MethodTree tree, Void nothing) {
            String outer = method;
            Element element = trees.getElement(getCurrentPath());
            method = name(element);
            calls.putIfAbsent(method, new TreeSet<>());
            isPrivate.put(method, element.getModifiers().contains(Modifier.PRIVATE));
            super.visitMethod(tree, nothing);
            method = outer;
            return null;
        }

        @Override
        public Void visitMethodInvocation(MethodInvocationTree tree, Void nothing) {
            called();
            return super.visitMethodInvocation(tree, nothing);
        }

        @Override
        public Void visitNewClass(NewClassTree tree, Void nothing) {
            called();
            return super.visitNewClass(tree, nothing);
        }

        private void called() {
            if (trees.getElement(getCurrentPath()) instanceof ExecutableElement element) {
                calls.get(method).add(name(element));
            }
        }
    }

    private void library() {
        Check.due("methods are found", calls.size() > 100, true);
        calls.forEach((method, called) -> called.stream().filter(other -> !calls.containsKey(other))
            .forEach(other -> Check.due(method + " calls " + other, LIBRARY.contains(other), true)));
    }

    private Set<String> reached(String from) {
        Set<String> reached = new TreeSet<>();
        reach(from, reached);
        return reached;
    }

    private void reach(String from, Set<String> reached) {
        for (String next : calls.getOrDefault(from, Set.of())) {
            if (reached.add(next)) {
                reach(next, reached);
            }
        }
    }

    /** The methods that call one another with this one: itself alone, if it is in no ring. */
    private Set<String> ring(String method) {
        Set<String> ring = new TreeSet<>(Set.of(method));
        for (String other : reached(method)) {
            if (reached(other).contains(method)) {
                ring.add(other);
            }
        }
        return ring;
    }

    private void recursion() {
        int found = 0;
        for (String method : calls.keySet()) {
            if (reached(method).contains(method)) {
                found++;
                Check.due("calls itself, and is private: " + method, isPrivate.get(method), true);
            }
        }
        Check.due("recursion is found", found > 0, true);
    }

    /** How many calls stand open at most, this one and the library's with it; a ring counts as one. */
    private int depth(String method) {
        Integer known = depths.get(method);
        if (known != null) {
            return known;
        }
        Set<String> ring = ring(method);
        int deepest = 0;
        for (String member : ring) {
            for (String next : calls.getOrDefault(member, Set.of())) {
                deepest = ring.contains(next) ? deepest : Math.max(deepest, depth(next));
            }
        }
        depths.put(method, deepest + 1);
        return deepest + 1;
    }

    private void depth() {
        for (String method : calls.keySet()) {
            Check.due("goes no deeper than " + DEEPEST + ": " + method, depth(method) <= DEEPEST, true);
        }
        Check.due("goes down to the library", depths.getOrDefault("java.lang.System.arraycopy", 0), 1);
    }
}
