import com.sun.source.tree.CompilationUnitTree;
import com.sun.source.util.JavacTask;
import com.sun.source.util.Trees;
import java.io.IOException;
import java.nio.file.Files;
import java.nio.file.Path;
import java.util.List;
import java.util.regex.Matcher;
import java.util.regex.Pattern;
import javax.tools.JavaCompiler;
import javax.tools.JavaFileObject;
import javax.tools.StandardJavaFileManager;
import javax.tools.ToolProvider;

/** The rules of LANGUAGE.md, in the one file that they bind, as the compiler itself reads it. */
public final class LanguageTest {
    private static final Check CHECK = new Check("LanguageTest");
    private static final Path FILE = Path.of("src/main/java/SillHouse.java");
    private static final int MOST_LINES = 60, MOST_PARAMETERS = 7, MOST_CLASSES = 12, MOST_FIELDS = 20, MOST_DEEP = 8;
    // Rules that a small class breaks on purpose: so it is seen that the reader sees them.
    private static final String[][] BROKEN = {
        {"4 library", "int a() { return Math.addExact(1, 2); }"},
        {"4 library", "long a() { return System.nanoTime(); }"},
        {"4 library", "boolean a() { return \"x\".startsWith(\"x\"); }"},
        {"4 library", "Object a() { return new java.util.HashMap<Integer, Integer>(); }"},
        {"3 types", "Object a() { return null; }"},
        {"3 types", "int[][][] a;"},
        {"3 types", "A[][] a;"},
        {"5 statics", "static int a;"},
        {"5 statics", "static final A a = null;"},
        {"5 statics", "static { }"},
        {"6 words", "void a() { throw null; }"},
        {"6 words", "void a() { assert true; }"},
        {"6 words", "void a() { synchronized (this) { } }"},
        {"6 words", "void a() { try { } finally { } }"},
        {"6 compared", "boolean a(String one, String other) { return one == other; }"},
        {"6 casts", "int a(Object one) { return ((A) one).hashCode(); }"},
        {"2 classes", "class Inner { }"},
        {"2 classes", "void a() { class Local { } }"},
        {"2 classes", "interface B { int b(); } void a() { B b = () -> 1; }"},
        {"2 classes", "static class B { } B a() { return new B() { }; }"},
        {"8 recursion", "int a() { return b(); } int b() { return a(); }"},
        {"8 recursion", "static class B { int b() { return 0; } } static class C extends B { B o; int b() { return o.b(); } }"},
        {"9 loops", "void a() { for (;;) { } }"},
        {"9 loops", "void a() { while (true) { } }"},
        {"10 joined", "String a(int one) { return \"x\" + one; }"},
        {"11 parameters", "void a(int b, int c, int d, int e, int f, int g, int h, int i) { }"},
        {"11 deep", "int a() { return b(); } int b() { return c(); } int c() { return d(); } int d() { return e(); } "
            + "int e() { return f(); } int f() { return g(); } int g() { return h(); } int h() { return i(); } "
            + "int i() { return 0; }"},
    };

    public static void main(String[] args) throws IOException {
        String source = Files.readString(FILE);
        Rules rules = read(source);
        for (String breach : rules.breaches) {
            CHECK.due("rule " + breach, 1, 0);
        }
        CHECK.due("calls one in another, at most eight", rules.deepest() <= MOST_DEEP ? 1 : 0, 1);
        CHECK.due("methods were read", rules.methods > 60 ? 1 : 0, 1);
        CHECK.due("calls were read", rules.calls() > 100 ? 1 : 0, 1);
        CHECK.due("classes, some twelve at most", rules.fieldsOf.size() <= MOST_CLASSES ? 1 : 0, 1);
        rules.fieldsOf.forEach((name, count) ->
                CHECK.due("fields, some twenty at most, of " + name, count <= MOST_FIELDS ? 1 : 0, 1));
        CHECK.due("signs above 127", source.chars().filter(sign -> sign > 127).count(), 0);
        methodsAreShort(source);
        for (String[] broken : BROKEN) {
            Rules seen = read("final class A { " + broken[1] + " }");
            boolean isDeep = broken[0].equals("11 deep") && seen.deepest() > MOST_DEEP;
            boolean isSeen = isDeep || seen.breaches.stream().anyMatch(breach -> breach.startsWith(broken[0]));
            CHECK.due("is seen, rule " + broken[0] + ": " + broken[1], isSeen ? 1 : 0, 1);
        }
        CHECK.end();
    }

    private static Rules read(String source) throws IOException {
        Path folder = Files.createTempDirectory("language");
        String name = source.contains("class SillHouse") ? "SillHouse" : "A";
        Path file = Files.writeString(folder.resolve(name + ".java"), source);
        JavaCompiler compiler = ToolProvider.getSystemJavaCompiler();
        try (StandardJavaFileManager files = compiler.getStandardFileManager(null, null, null)) {
            Iterable<? extends JavaFileObject> units = files.getJavaFileObjects(file);
            // What it has to say of the classes that are broken on purpose is of no use here.
            JavacTask task = (JavacTask) compiler.getTask(null, files, told -> { }, List.of("-proc:none"), null, units);
            Rules rules = new Rules(Trees.instance(task), MOST_PARAMETERS);
            Iterable<? extends CompilationUnitTree> trees = task.parse();
            task.analyze();
            for (CompilationUnitTree tree : trees) {
                rules.scan(tree, null);
            }
            rules.seeRecursion();
            return rules;
        } finally {
            Files.delete(file);
            Files.delete(folder);
        }
    }

    private static void methodsAreShort(String code) {
        Matcher head = Pattern.compile("(?m)^( +)[\\w\\[\\] ]+\\(([\\w\\[\\], ]*)\\) \\{$").matcher(code);
        while (head.find()) {
            if (head.group().matches(" +(if|for|while|switch) .*")) {
                continue;
            }
            int end = code.indexOf("\n" + head.group(1) + "}\n", head.end());
            long lines = code.substring(head.start(), end).lines().count();
            CHECK.due("sixty lines of " + head.group().trim(), lines <= MOST_LINES ? 1 : 0, 1);
        }
    }
}
