import com.sun.source.tree.CompilationUnitTree;
import com.sun.source.tree.MethodInvocationTree;
import com.sun.source.tree.MethodTree;
import com.sun.source.tree.NewArrayTree;
import com.sun.source.tree.NewClassTree;
import com.sun.source.util.JavacTask;
import com.sun.source.util.TreePath;
import com.sun.source.util.TreePathScanner;
import com.sun.source.util.Trees;
import java.nio.file.Path;
import java.util.HashMap;
import java.util.List;
import java.util.Map;
import java.util.Set;
import java.util.TreeMap;
import java.util.TreeSet;
import javax.lang.model.element.Element;
import javax.tools.JavaCompiler;
import javax.tools.StandardJavaFileManager;
import javax.tools.ToolProvider;

/** LANGUAGE.md, rules 4, 8, 11, 12, by which method of the class calls which; run from the project's root. */
public final class CallsTest extends TreePathScanner<Void, Void> {
    private static final Due DUE = new Due("CallsTest");
    private static final String SOURCE = "src/main/java/ThreadBank.java";
    private static final int DEEPEST = 8;
    /** What the class uses of all that rule 4 names. */
    private static final Set<String> LIBRARY = Set.of("java.lang.Integer.bitCount(int)", "java.lang.Math.max(int,int)",
        "java.lang.Math.min(int,int)", "java.lang.String.charAt(int)", "java.lang.String.length()",
        "java.lang.System.arraycopy(java.lang.Object,int,java.lang.Object,int,int)", "java.lang.Object.Object()");

    private final Trees trees;
    private final Map<String, Set<String>> callees = new TreeMap<>();
    private final Map<String, Integer> depths = new HashMap<>();
    private String caller = "";

    private CallsTest(Trees trees) {
        this.trees = trees;
    }

    public static void main(String[] args) throws Exception {
        JavaCompiler compiler = ToolProvider.getSystemJavaCompiler();
        try (StandardJavaFileManager files = compiler.getStandardFileManager(null, null, null)) {
            var source = files.getJavaFileObjects(Path.of(SOURCE));
            JavacTask task = (JavacTask) compiler.getTask(null, files, null, List.of("-proc:none"), null, source);
            Iterable<? extends CompilationUnitTree> units = task.parse();
            task.analyze();
            CallsTest calls = new CallsTest(Trees.instance(task));
            calls.scan(units, null);
            calls.check();
        }
        DUE.end();
    }

    private void check() {
        DUE.is("methods are found", callees.size() > 100 ? 1 : 0, 1);
        for (String method : callees.keySet()) {
            DUE.is(method + " calls deep", Math.max(DEEPEST, depthOf(method)), DEEPEST);
            for (String called : callees.get(method)) {
                boolean known = callees.containsKey(called) || LIBRARY.contains(called);
                DUE.is(method + " calls " + called + ", which is listed here", known ? 1 : 0, 1);
            }
        }
    }

    /** How many calls stand open at once below a method, itself and the library's among them. */
    private int depthOf(String method) {
        if (depths.containsKey(method)) {
            return depths.get(method);
        }
        // Far too deep, should the method come back to itself.
        depths.put(method, 1000);
        int below = 0;
        for (String called : callees.getOrDefault(method, Set.of())) {
            below = Math.max(below, depthOf(called));
        }
        depths.put(method, below + 1);
        return below + 1;
    }

    private static String nameOf(Element method) {
        return method.getEnclosingElement() + "." + method;
    }

    @Override
    public Void visitMethod(MethodTree method, Void none) {
        caller = nameOf(trees.getElement(getCurrentPath()));
        callees.putIfAbsent(caller, new TreeSet<>());
        super.visitMethod(method, none);
        caller = "";
        return null;
    }

    @Override
    public Void visitMethodInvocation(MethodInvocationTree call, Void none) {
        Element called = trees.getElement(new TreePath(getCurrentPath(), call.getMethodSelect()));
        callees.get(caller).add(nameOf(called));
        return super.visitMethodInvocation(call, none);
    }

    /** What is made, is made with the bank: a run of 512 calls makes nothing more. */
    @Override
    public Void visitNewClass(NewClassTree made, Void none) {
        DUE.is("an object that is made in '" + caller + "'", caller, "");
        return super.visitNewClass(made, none);
    }

    @Override
    public Void visitNewArray(NewArrayTree made, Void none) {
        DUE.is("an array that is made in '" + caller + "'", caller, "");
        return super.visitNewArray(made, none);
    }
}
