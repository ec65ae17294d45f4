import com.sun.source.tree.ClassTree;
import com.sun.source.tree.CompilationUnitTree;
import com.sun.source.tree.MethodInvocationTree;
import com.sun.source.tree.MethodTree;
import com.sun.source.tree.NewClassTree;
import com.sun.source.tree.Tree;
import com.sun.source.util.JavacTask;
import com.sun.source.util.TreePath;
import com.sun.source.util.TreePathScanner;
import com.sun.source.util.Trees;
import java.io.IOException;
import java.nio.file.Path;
import java.util.ArrayList;
import java.util.HashMap;
import java.util.List;
import java.util.Map;
import java.util.Set;
import java.util.TreeMap;
import java.util.TreeSet;
import javax.lang.model.element.Element;
import javax.tools.JavaCompiler;
import javax.tools.StandardJavaFileManager;
import javax.tools.ToolProvider;

/** Rules 4, 8 and 11 of ../shared/LANGUAGE.md, as far as the compiler sees them in the class: who calls whom. */
public final class DepthTest {
    private static final Check CHECK = new Check();
    private static final Path SOURCE = Path.of("src/main/java/HedgePark.java");
    private static final int DEEPEST = 8;
    private static final Set<String> RECURSIVE = Set.of("HedgePark.Reader.readTruth", "HedgePark.Reader.readBoth",
            "HedgePark.Reader.readUnit", "HedgePark.Reader.readSum", "HedgePark.Reader.readTerm", "HedgePark.Reader.readAtom");
    private static final Set<String> LIBRARY = Set.of("java.util.Arrays.fill", "java.lang.System.arraycopy",
            "java.lang.Long.bitCount", "java.lang.Math.min", "java.lang.Math.max", "java.lang.Math.floorMod",
            "java.lang.String.length", "java.lang.String.charAt", "java.lang.String.indexOf", "java.lang.Object.new",
            "java.util.NoSuchElementException.new", "java.lang.IllegalStateException.new",
            "java.lang.IllegalArgumentException.new", "java.lang.IndexOutOfBoundsException.new");

    private static final Map<String, Set<String>> CALLED = new TreeMap<>();
    private static final Map<String, Integer> DEPTH = new HashMap<>();

    /** Notes all calls; those of a field's first value are the constructor's. */
    private static final class Caller extends TreePathScanner<Void, Void> {
        private final Trees trees;
        private String method = "";

        Caller(Trees trees) {
            this.trees = trees;
        }

        private static String nameOf(Element method) {
            String name = method.getSimpleName().toString().replace("<init>", "new");
            return method.getEnclosingElement() + "." + name;
        }

        @Override
        public Void visitClass(ClassTree tree, Void none) {
            String outer = method;
            enter(trees.getElement(getCurrentPath()) + ".new");
            super.visitClass(tree, none);
            method = outer;
            return null;
        }

        @Override
        public Void visitMethod(MethodTree tree, Void none) {
            String outer = method;
            enter(nameOf(trees.getElement(getCurrentPath())));
            super.visitMethod(tree, none);
            method = outer;
            return null;
        }

        private void enter(String name) {
            method = name;
            CALLED.computeIfAbsent(name, n -> new TreeSet<>());
        }

        @Override
        public Void visitMethodInvocation(MethodInvocationTree tree, Void none) {
            note(tree.getMethodSelect());
            return super.visitMethodInvocation(tree, none);
        }

        @Override
        public Void visitNewClass(NewClassTree tree, Void none) {
            note(tree);
            return super.visitNewClass(tree, none);
        }

        private void note(Tree called) {
            TreePath path = called == getCurrentPath().getLeaf() ? getCurrentPath() : new TreePath(getCurrentPath(), called);
            CALLED.get(method).add(nameOf(trees.getElement(path)));
        }
    }

    private static void readCalls() throws IOException {
        JavaCompiler javac = ToolProvider.getSystemJavaCompiler();
        try (StandardJavaFileManager files = javac.getStandardFileManager(null, null, null)) {
            JavacTask task = (JavacTask) javac.getTask(null, files, null, List.of("-proc:none"), null,
                    files.getJavaFileObjects(SOURCE));
            Iterable<? extends CompilationUnitTree> units = task.parse();
            task.analyze();
            new Caller(Trees.instance(task)).scan(units, null);
        }
    }

    private static Set<String> allCalledBy(String method) {
        Set<String> all = new TreeSet<>();
        List<String> open = new ArrayList<>(CALLED.getOrDefault(method, Set.of()));
        while (!open.isEmpty()) {
            String next = open.remove(open.size() - 1);
            if (all.add(next)) {
                open.addAll(CALLED.getOrDefault(next, Set.of()));
            }
        }
        return all;
    }

    /** How many calls that are no recursion stand open at most, the method's own among them. */
    private static int depthOf(String method) {
        if (RECURSIVE.contains(method)) {
            return deepestOf(RECURSIVE);
        }
        Integer known = DEPTH.get(method);
        int depth = known != null ? known : 1 + deepestOf(Set.of(method));
        DEPTH.put(method, depth);
        return depth;
    }

    private static int deepestOf(Set<String> callers) {
        int deepest = 0;
        for (String caller : callers) {
            for (String called : CALLED.getOrDefault(caller, Set.of())) {
                if (!callers.contains(called)) {
                    deepest = Math.max(deepest, depthOf(called));
                }
            }
        }
        return deepest;
    }

    public static void main(String[] args) throws IOException {
        readCalls();
        CHECK.due("methods are seen", CALLED.size() > 100 ? 1 : 0, 1);
        Set<String> recursive = new TreeSet<>();
        Set<String> library = new TreeSet<>();
        for (Map.Entry<String, Set<String>> entry : CALLED.entrySet()) {
            if (allCalledBy(entry.getKey()).contains(entry.getKey())) {
                recursive.add(entry.getKey());
            }
            for (String called : entry.getValue()) {
                if (!CALLED.containsKey(called)) {
                    library.add(called);
                }
            }
        }
        CHECK.due("what calls itself", recursive.toString(), new TreeSet<>(RECURSIVE).toString());
        library.removeAll(LIBRARY);
        CHECK.due("called of the library, beside what the rules list", library.toString(), "[]");
        if (recursive.equals(RECURSIVE)) {
            for (String method : CALLED.keySet()) {
                CHECK.due(method + " goes eight deep at most", depthOf(method) <= DEEPEST ? 1 : 0, 1);
            }
        }
        CHECK.end("DepthTest");
    }
}
