import java.io.IOException;
import java.lang.reflect.InvocationTargetException;
import java.net.URL;
import java.net.URLClassLoader;
import java.nio.file.Files;
import java.nio.file.Path;
import java.util.ArrayList;
import java.util.List;
import java.util.regex.Matcher;
import java.util.regex.Pattern;
import javax.tools.ToolProvider;

/** The calls that README.md shows are made, one after another, and answer what it says. */
public final class ReadmeTest {
    private static final Check CHECK = new Check("ReadmeTest");
    private static final Pattern BLOCK = Pattern.compile("(?s)```java\n(.*?)```");
    private static final Pattern ANSWERED = Pattern.compile("(?:int (\\w) = )?(x\\.\\w+\\(.*\\)); *// (-?\\d+|LOST)\\b.*");

    private final List<String> calls = new ArrayList<>();
    private final List<Long> due = new ArrayList<>();
    private final List<Long> got = new ArrayList<>();

    public static void main(String[] args) throws IOException, ReflectiveOperationException {
        String readme = Files.readString(Path.of("README.md"));
        everyCallIsShown(readme);
        new ReadmeTest().run(readme);
        CHECK.end();
    }

    private static void everyCallIsShown(String readme) throws IOException {
        for (String line : Doc.face()) {
            Matcher method = Pattern.compile("public (?:int|long) (\\w+)\\(.*").matcher(line.trim());
            if (method.matches()) {
                boolean isShown = readme.contains("x." + method.group(1) + "(");
                CHECK.due("README.md shows " + method.group(1), isShown ? 1 : 0, 1);
            }
        }
    }

    private void run(String readme) throws IOException, ReflectiveOperationException {
        StringBuilder code = new StringBuilder("public final class Shown {\n");
        code.append("public static void run(java.util.List<Long> got) {\n");
        Matcher block = BLOCK.matcher(readme);
        while (block.find()) {
            for (String line : block.group(1).split("\n")) {
                code.append(made(line)).append('\n');
            }
        }
        makeAll(code.append("}\n}\n").toString());
        CHECK.due("calls that README.md shows with their answers", calls.size() > 40 ? 1 : 0, 1);
        CHECK.due("calls of them that were made", got.size(), calls.size());
        for (int k = 0; k < got.size(); k++) {
            CHECK.due(calls.get(k), got.get(k), due.get(k));
        }
    }

    private String made(String line) {
        Matcher answered = ANSWERED.matcher(line);
        if (!answered.matches()) {
            return line;
        }
        String name = answered.group(1);
        String call = answered.group(2);
        calls.add(call);
        due.add(answered.group(3).equals("LOST") ? SillHouse.LOST : Long.parseLong(answered.group(3)));
        return name == null ? "got.add((long) " + call + ");" : "int " + name + " = " + call + "; got.add((long) " + name + ");";
    }

    private void makeAll(String code) throws IOException, ReflectiveOperationException {
        Path folder = Files.createTempDirectory("readme");
        Path file = Files.writeString(folder.resolve("Shown.java"), code);
        int compiled = ToolProvider.getSystemJavaCompiler().run(null, null, null, "-proc:none",
            "-cp", System.getProperty("java.class.path"), "-d", folder.toString(), file.toString());
        CHECK.due("compiling what README.md shows", compiled, 0);
        if (compiled == 0) {
            try (URLClassLoader loader = new URLClassLoader(new URL[] {folder.toUri().toURL()})) {
                loader.loadClass("Shown").getMethod("run", List.class).invoke(null, got);
            } catch (InvocationTargetException thrown) {
                CHECK.due("what README.md shows threw " + thrown.getCause(), 1, 0);
            }
            Files.delete(folder.resolve("Shown.class"));
        }
        Files.delete(file);
        Files.delete(folder);
    }
}
