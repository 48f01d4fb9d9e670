import com.sun.source.tree.ClassTree;
import com.sun.source.tree.CompilationUnitTree;
import com.sun.source.util.JavacTask;
import com.sun.source.util.Trees;
import java.nio.file.Path;
import java.util.List;
import java.util.Map;
import java.util.Set;
import java.util.TreeMap;
import java.util.TreeSet;
import javax.tools.JavaCompiler;
import javax.tools.StandardJavaFileManager;
import javax.tools.ToolProvider;

/** The rules of LANGUAGE.md that the compiler's own view of the program can tell. */
public final class RulesTest {
    private static final int DEEPEST = 8;

    public static void main(String[] args) throws Exception {
        Due due = new Due();
        checkScanner(due);
        JavaCompiler compiler = ToolProvider.getSystemJavaCompiler();
        try (StandardJavaFileManager files = compiler.getStandardFileManager(null, null, null)) {
            var sources = files.getJavaFileObjects(Path.of("src/main/java/TruceLine.java"));
            RulesScanner scanner = scan(compiler, files, sources);
            due.same("outside the rules", String.join("\n", scanner.wrong), "");
            due.is("methods are found", Math.min(150, scanner.calls.size()), 150);
            due.is("calls deeper than eight", Math.max(DEEPEST, deepest(scanner.calls)), DEEPEST);
            due.same("recursion", recursive(scanner.calls).toString(),
                "[Reader.readAnd, Reader.readComparison, Reader.readNot, Reader.readOne, Reader.readOr,"
                    + " Reader.readSum, Reader.readTerm]");
        }
        due.end();
    }

    private static RulesScanner scan(JavaCompiler compiler, StandardJavaFileManager files,
            Iterable<? extends javax.tools.JavaFileObject> sources) throws java.io.IOException {
        JavacTask task = (JavacTask) compiler.getTask(null, files, null, List.of("-proc:none"), null, sources);
        CompilationUnitTree unit = task.parse().iterator().next();
        task.analyze();
        RulesScanner scanner = new RulesScanner(unit, Trees.instance(task));
        for (var type : unit.getTypeDecls()) {
            if (!(type instanceof ClassTree)) scanner.wrong.add("more than a class in the file");
        }
        scanner.scan(unit, null);
        return scanner;
    }

    /** A scanner that finds nothing would pass every program: it has to find what is wrong here. */
    private static void checkScanner(Due due) throws Exception {
        String[] bodies = {
            "Runnable r = () -> {};", "try { } finally { }", "throw null;", "int[] a = new int[3];", "String s = \"a\" + 1;",
            "Object o = null;", "Math.addExact(1, 2);", "class A { }", "while (true) { }", "for (;;) { }", "ROW[0] = 1;",
            "ROW[0]++;", "ROW[0] += 2;", "System.gc();", "assert true;", "synchronized (this) { }", "Wrong w = new Wrong();",
            "java.util.function.IntSupplier s = this::hashCode;", "boolean b = (Object) null instanceof String;",
            "\n".repeat(60), "Integer i = 3;", "int[][][] a = null;", "\"a\".trim();", "String s = \"a\"; boolean b = s == \"b\";"};
        for (String body : bodies) due.is("is found: " + body.trim(), found(inMethod(body)), 1);
        String[] members = {
            "static int open;", "static { }", "class Inner { }", "void f(int a, int b, int c, int d, int e, int f, int g, int h) { }",
            "public int count(int n) { return n; } private int count() { return 0; }", "java.util.List<String> list;"};
        for (String member : members) due.is("is found: " + member, found(inClass(member)), 1);
        due.is("what is right", found(inMethod("int a = 1; while (a < 3) a++; for (int i = 0; i < 2; i++) a = Math.max(a, i);")), 0);
        due.is("deep", deepest(Map.of("a", Set.of("b"), "b", Set.of("c", "b"), "c", Set.of("d"), "d", Set.of("c"))), 3);
        due.same("rounds", recursive(Map.of("a", Set.of("b"), "b", Set.of("c"), "c", Set.of("b"))).toString(), "[b, c]");
    }

    private static String inMethod(String body) {
        return inClass("void method() { " + body + " }");
    }

    private static String inClass(String member) {
        return "final class Wrong { private static final int[] ROW = {1, 2}; " + member + " }";
    }

    private static int found(String program) throws Exception {
        JavaCompiler compiler = ToolProvider.getSystemJavaCompiler();
        try (StandardJavaFileManager files = compiler.getStandardFileManager(null, null, null)) {
            RulesScanner scanner = scan(compiler, files, List.of(new Written(program)));
            return scanner.wrong.isEmpty() ? 0 : 1;
        }
    }

    /** How many calls stand open at once at most; calls inside a round are left out. */
    private static int deepest(Map<String, Set<String>> calls) {
        Map<String, Integer> known = new TreeMap<>();
        int deepest = 0;
        for (String method : calls.keySet()) deepest = Math.max(deepest, depthOf(method, calls, known));
        return deepest;
    }

    private static int depthOf(String method, Map<String, Set<String>> calls, Map<String, Integer> known) {
        if (known.containsKey(method)) return known.get(method);
        int below = 0;
        for (String other : calls.getOrDefault(method, Set.of())) {
            boolean round = reached(other, calls).contains(method) || other.equals(method);
            if (!round) below = Math.max(below, depthOf(other, calls, known));
        }
        known.put(method, below + 1);
        return below + 1;
    }

    private static Set<String> recursive(Map<String, Set<String>> calls) {
        Set<String> found = new TreeSet<>();
        for (String method : calls.keySet()) {
            if (reached(method, calls).contains(method)) found.add(method);
        }
        return found;
    }

    private static Set<String> reached(String from, Map<String, Set<String>> calls) {
        Set<String> found = new TreeSet<>();
        List<String> open = new java.util.ArrayList<>(List.of(from));
        while (!open.isEmpty()) {
            for (String next : calls.getOrDefault(open.remove(open.size() - 1), Set.of())) {
                if (found.add(next)) open.add(next);
            }
        }
        return found;
    }

    /** A program that stands in no file. */
    private static final class Written extends javax.tools.SimpleJavaFileObject {
        private final String program;

        Written(String program) {
            super(java.net.URI.create("string:///Wrong.java"), Kind.SOURCE);
            this.program = program;
        }

        @Override
        public CharSequence getCharContent(boolean ignoreErrors) {
            return program;
        }
    }
}
