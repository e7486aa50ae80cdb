import com.sun.source.tree.AssertTree;
import com.sun.source.tree.ClassTree;
import com.sun.source.tree.CompilationUnitTree;
import com.sun.source.tree.LambdaExpressionTree;
import com.sun.source.tree.MemberReferenceTree;
import com.sun.source.tree.MethodInvocationTree;
import com.sun.source.tree.MethodTree;
import com.sun.source.tree.NewArrayTree;
import com.sun.source.tree.NewClassTree;
import com.sun.source.tree.SynchronizedTree;
import com.sun.source.tree.ThrowTree;
import com.sun.source.tree.TryTree;
import com.sun.source.util.JavacTask;
import com.sun.source.util.TreePathScanner;
import com.sun.source.util.Trees;
import java.io.IOException;
import java.nio.file.Path;
import java.util.ArrayDeque;
import java.util.Deque;
import java.util.List;
import java.util.Map;
import java.util.Set;
import java.util.TreeMap;
import java.util.TreeSet;
import java.util.regex.Pattern;
import javax.lang.model.element.Element;
import javax.tools.JavaCompiler;
import javax.tools.StandardJavaFileManager;
import javax.tools.ToolProvider;

/**
 * The rules of LANGUAGE.md that only a compiler can tell, asked of javac's own trees: how deep calls go, which
 * method calls itself, where objects are made, and what of the library is called.
 */
public final class CallsTest {
    private static final Path SOURCE = Path.of("src/main/java/WindowsLookedOut.java");
    private static final int DEEPEST = 8;
    /** The one method that may call itself: its depth is an argument. */
    private static final String RECURSION = "WindowsLookedOut.Moves.run";
    private static final Pattern LIBRARY = Pattern.compile("java\\.lang\\.(Object\\.<init>|System\\.arraycopy"
        + "|String\\.(length|charAt|isEmpty|equals|indexOf|substring|toCharArray)"
        + "|(Math|Integer|Long)\\.\\w+(?<!Exact))");
    /** What stands in no method: the values that fields are made with. */
    private static final String FIELDS = "";

    private static final Map<String, Set<String>> CALLS = new TreeMap<>();
    private static int wrong = 0;

    public static void main(String[] args) throws IOException {
        JavaCompiler javac = ToolProvider.getSystemJavaCompiler();
        try (StandardJavaFileManager files = javac.getStandardFileManager(null, null, null)) {
            JavacTask task = (JavacTask) javac.getTask(
                null, files, null, List.of("-proc:none"), null, files.getJavaFileObjects(SOURCE));
            Iterable<? extends CompilationUnitTree> units = task.parse();
            task.analyze();
            new Scanner(Trees.instance(task)).scan(units, null);
        }
        must(CALLS.size() > 100, "the methods are read: " + CALLS.size());
        Set<String> ofWay = CALLS.getOrDefault("WindowsLookedOut.way", Set.of());
        must(ofWay.contains("WindowsLookedOut.Ways.measure"), "the calls are read: " + ofWay);
        int deepest = 0;
        for (String method : CALLS.keySet()) {
            must(!reaches(method) || method.equals(RECURSION), "8: calls itself: " + method);
            int deep = deep(method);
            must(deep <= DEEPEST, "11: calls go " + deep + " deep from " + method);
            deepest = Math.max(deepest, deep);
        }
        System.out.println("CallsTest: " + CALLS.size() + " methods, " + deepest + " deep, " + wrong + " rules broken");
        if (wrong != 0) {
            System.exit(1);
        }
    }

    private static void must(boolean is, String rule) {
        if (!is) {
            wrong++;
            System.out.println(rule);
        }
    }

    private static boolean reaches(String method) {
        Set<String> reached = new TreeSet<>();
        Deque<String> open = new ArrayDeque<>(CALLS.get(method));
        while (!open.isEmpty()) {
            String one = open.pop();
            if (reached.add(one)) {
                open.addAll(CALLS.getOrDefault(one, Set.of()));
            }
        }
        return reached.contains(method);
    }

    /** What calls itself has a depth of its own, and counts once. */
    private static int deep(String method) {
        int deepest = 0;
        for (String one : CALLS.getOrDefault(method, Set.of())) {
            deepest = Math.max(deepest, reaches(one) ? 1 : deep(one));
        }
        return deepest + 1;
    }

    private static final class Scanner extends TreePathScanner<Void, Void> {
        private final Trees trees;
        private String method = FIELDS;

        Scanner(Trees trees) {
            this.trees = trees;
        }

        private String here() {
            Element e = trees.getElement(getCurrentPath());
            return e.getEnclosingElement() + "." + e.getSimpleName();
        }

        private void making(String what) {
            must(method.equals(FIELDS) || method.endsWith("<init>"), "12: " + what + " is made in " + method);
        }

        private void never(String what) {
            must(false, what + " in " + method);
        }

        @Override
        public Void visitMethod(MethodTree tree, Void v) {
            method = here();
            CALLS.computeIfAbsent(method, name -> new TreeSet<>());
            super.visitMethod(tree, v);
            method = FIELDS;
            return null;
        }

        @Override
        public Void visitMethodInvocation(MethodInvocationTree tree, Void v) {
            String called = here();
            if (called.startsWith("WindowsLookedOut")) {
                CALLS.computeIfAbsent(method, name -> new TreeSet<>()).add(called);
            } else {
                must(LIBRARY.matcher(called).matches(), "4: of the library: " + called + " in " + method);
            }
            return super.visitMethodInvocation(tree, v);
        }

        @Override
        public Void visitClass(ClassTree tree, Void v) {
            must(method.equals(FIELDS), "2: a class in " + method);
            return super.visitClass(tree, v);
        }

        @Override
        public Void visitNewClass(NewClassTree tree, Void v) {
            making("an object");
            return super.visitNewClass(tree, v);
        }

        @Override
        public Void visitNewArray(NewArrayTree tree, Void v) {
            making("an array");
            return super.visitNewArray(tree, v);
        }

        @Override
        public Void visitThrow(ThrowTree tree, Void v) {
            never("6: throw");
            return super.visitThrow(tree, v);
        }

        @Override
        public Void visitTry(TryTree tree, Void v) {
            never("6: try");
            return super.visitTry(tree, v);
        }

        @Override
        public Void visitSynchronized(SynchronizedTree tree, Void v) {
            never("6: synchronized");
            return super.visitSynchronized(tree, v);
        }

        @Override
        public Void visitAssert(AssertTree tree, Void v) {
            never("6: assert");
            return super.visitAssert(tree, v);
        }

        @Override
        public Void visitLambdaExpression(LambdaExpressionTree tree, Void v) {
            never("2: a lambda");
            return super.visitLambdaExpression(tree, v);
        }

        @Override
        public Void visitMemberReference(MemberReferenceTree tree, Void v) {
            never("2: a method reference");
            return super.visitMemberReference(tree, v);
        }
    }
}
