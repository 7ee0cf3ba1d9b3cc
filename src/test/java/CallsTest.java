import com.sun.source.tree.CompilationUnitTree;
import com.sun.source.tree.MethodInvocationTree;
import com.sun.source.tree.MethodTree;
import com.sun.source.util.JavacTask;
import com.sun.source.util.TreePathScanner;
import com.sun.source.util.Trees;
import java.nio.file.Path;
import java.util.ArrayList;
import java.util.List;
import java.util.Map;
import java.util.Set;
import java.util.TreeMap;
import java.util.TreeSet;
import javax.lang.model.element.Element;
import javax.tools.JavaCompiler;
import javax.tools.StandardJavaFileManager;
import javax.tools.ToolProvider;

/** Those rules of ../shared/LANGUAGE.md that ask which method calls which: how deep, in circles, of what library. */
public final class CallsTest {
    private static final int MOST_DEEP = 8;
    private static final Set<String> LIBRARY = Set.of("java.lang.Math.max", "java.lang.Math.min",
        "java.lang.System.arraycopy", "java.lang.String.length", "java.lang.String.charAt");
    private static final Check check = new Check();
    private static final Map<String, Set<String>> calls = new TreeMap<>();

    public static void main(String[] args) throws Exception {
        check.at("the calls");
        readCalls(Path.of("src/main/java/PartitionBench.java"));
        check.due("the face is read", calls.containsKey("PartitionBench.loadDisk"), true);
        for (String method : calls.keySet()) {
            List<String> chain = longestChain(method, new ArrayList<>());
            boolean isShort = !chain.isEmpty() && chain.size() <= MOST_DEEP;
            check.due("the deepest calls of " + method, isShort ? "short" : chain.toString(), "short");
        }
        Set<String> outside = new TreeSet<>();
        for (Set<String> called : calls.values()) {
            outside.addAll(called);
        }
        outside.removeAll(calls.keySet());
        outside.removeAll(LIBRARY);
        check.due("what is called of the library", outside, new TreeSet<String>());
        check.end();
    }

    private static void readCalls(Path file) throws Exception {
        JavaCompiler compiler = ToolProvider.getSystemJavaCompiler();
        StandardJavaFileManager files = compiler.getStandardFileManager(null, null, null);
        JavacTask task = (JavacTask) compiler.getTask(null, files, null, null, null, files.getJavaFileObjects(file));
        Iterable<? extends CompilationUnitTree> units = task.parse();
        task.analyze();
        Trees trees = Trees.instance(task);
        for (CompilationUnitTree unit : units) {
            new Reader(trees).scan(unit, null);
        }
    }

    /** The longest chain of calls from a method on, itself and the library's methods counted; empty if it is a circle. */
    private static List<String> longestChain(String method, List<String> open) {
        List<String> longest = new ArrayList<>();
        if (open.contains(method)) {
            return longest;
        }
        open.add(method);
        for (String called : calls.getOrDefault(method, Set.of())) {
            List<String> chain = longestChain(called, open);
            if (chain.isEmpty()) {
                return chain;
            }
            longest = chain.size() > longest.size() ? chain : longest;
        }
        open.remove(method);
        longest.add(0, method);
        return longest;
    }

    /** Writes down what each method calls. */
    private static final class Reader extends TreePathScanner<Void, Void> {
        private final Trees trees;
        private Set<String> ofMethod = new TreeSet<>();

        Reader(Trees trees) {
            this.trees = trees;
        }

        @Override
        public Void visitMethod(MethodTree method, Void none) {
            ofMethod = calls.computeIfAbsent(nameOf(trees.getElement(getCurrentPath())), name -> new TreeSet<>());
            return super.visitMethod(method, none);
        }

        @Override
        public Void visitMethodInvocation(MethodInvocationTree call, Void none) {
            Element called = trees.getElement(getCurrentPath());
            if (!called.getSimpleName().contentEquals("<init>")) {
                ofMethod.add(nameOf(called));
            }
            return super.visitMethodInvocation(call, none);
        }

        private static String nameOf(Element method) {
            return method.getEnclosingElement() + "." + method.getSimpleName();
        }
    }
}
