import com.sun.source.tree.CompilationUnitTree;
import com.sun.source.tree.MethodInvocationTree;
import com.sun.source.tree.MethodTree;
import com.sun.source.tree.NewClassTree;
import com.sun.source.util.JavacTask;
import com.sun.source.util.TreePathScanner;
import com.sun.source.util.Trees;
import java.io.IOException;
import java.nio.file.Path;
import java.util.ArrayList;
import java.util.List;
import java.util.Map;
import java.util.Set;
import java.util.TreeMap;
import java.util.TreeSet;
import javax.lang.model.element.Element;
import javax.tools.JavaCompiler;
import javax.tools.StandardJavaFileManager;
import javax.tools.ToolProvider;

/** LANGUAGE.md's rules 8 and 11: calls go at most eight deep, and the class has no recursion at all. */
public final class CallsTest {
    private static final Path SOURCE = Path.of("src/main/java/GreatWave.java");
    private static final int DEEPEST = 8;

    /** What each method of the source calls of the source's own methods. */
    private static final Map<String, Set<String>> CALLED = new TreeMap<>();

    public static void main(String[] args) throws IOException {
        readSource();
        Check.yes("the calls are seen", CALLED.containsKey("GreatWave.pass(int)"));
        Check.yes("calls of classes inside, too", CALLED.get("GreatWave.law(int)").contains("GreatWave.Law.enact(int)"));
        for (String method : CALLED.keySet()) {
            List<String> chain = deepestFrom(method, new ArrayList<>());
            Check.yes("at most " + DEEPEST + " calls deep: " + chain, chain.size() <= DEEPEST);
        }
        Check.end();
    }

    private static void readSource() throws IOException {
        JavaCompiler compiler = ToolProvider.getSystemJavaCompiler();
        try (StandardJavaFileManager files = compiler.getStandardFileManager(null, null, null)) {
            JavacTask task = (JavacTask) compiler.getTask(
                null, files, null, List.of("-proc:none"), null, files.getJavaFileObjects(SOURCE));
            CompilationUnitTree unit = task.parse().iterator().next();
            task.analyze();
            new Reader(Trees.instance(task)).scan(unit, null);
        }
    }

    /** What stands outside of methods (a field's first value) is of no method, and calls only constructors. */
    private static final class Reader extends TreePathScanner<Void, String> {
        private final Trees trees;

        Reader(Trees trees) {
            this.trees = trees;
        }

        private String nameHere() {
            Element element = trees.getElement(getCurrentPath());
            return element.getEnclosingElement() + "." + element;
        }

        @Override
        public Void visitMethod(MethodTree method, String caller) {
            CALLED.putIfAbsent(nameHere(), new TreeSet<>());
            return super.visitMethod(method, nameHere());
        }

        @Override
        public Void visitMethodInvocation(MethodInvocationTree call, String caller) {
            note(caller);
            return super.visitMethodInvocation(call, caller);
        }

        @Override
        public Void visitNewClass(NewClassTree made, String caller) {
            note(caller);
            return super.visitNewClass(made, caller);
        }

        private void note(String caller) {
            if (caller != null && nameHere().startsWith("GreatWave.")) {
                CALLED.get(caller).add(nameHere());
            }
        }
    }

    /** The longest chain of calls that begins with the method; open are those that it was called from. */
    private static List<String> deepestFrom(String method, List<String> open) {
        Check.no(method + " is called from itself by " + open, open.contains(method));
        List<String> longest = new ArrayList<>();
        if (!open.contains(method)) {
            open.add(method);
            for (String called : CALLED.getOrDefault(method, Set.of())) {
                List<String> chain = deepestFrom(called, open);
                longest = chain.size() > longest.size() ? chain : longest;
            }
            open.remove(method);
        }
        longest.add(0, method);
        return longest;
    }
}
