import java.io.IOException;
import java.lang.reflect.Field;
import java.lang.reflect.Method;
import java.lang.reflect.Modifier;
import java.nio.file.Files;
import java.nio.file.Path;
import java.util.ArrayList;
import java.util.Arrays;
import java.util.HashSet;
import java.util.List;
import java.util.Set;
import java.util.regex.Matcher;
import java.util.regex.Pattern;

/** What a reader of words alone can see of the rules of LANGUAGE.md, in the one file that they bind. */
public final class LanguageTest {
    private static final Check CHECK = new Check("LanguageTest");
    private static final String[] FORBIDDEN = {"\\bthrow\\b", "\\bthrows\\b", "\\btry\\b", "\\bcatch\\b", "\\bsynchronized\\b",
        "\\bassert\\b", "->", "::", "@", "\\bimport\\b", "\\bpackage\\b", "Exact\\b", "\\bequals\\b", "\\bhashCode\\b",
        "\\btoString\\b", "\\bprotected\\b", "\\bObject\\b", "\\bSystem\\.(?!arraycopy)", "\\bRandom\\b", "\\bvar\\b",
        "\\bnew Runnable\\b", "static \\{", "[^\\x00-\\x7f]"};

    public static void main(String[] args) throws IOException {
        String source = Files.readString(Path.of("src/main/java/SillHouse.java"));
        String code = source.replaceAll("(?s)/\\*.*?\\*/", "").replaceAll("//[^\n]*", "");
        for (String word : FORBIDDEN) {
            CHECK.due("places of " + word, count(code, word), 0);
        }
        CHECK.due("classes, some twelve at most", count(code, "\\bclass \\w+") <= 12 ? 1 : 0, 1);
        CHECK.due("inner classes that are not static", count(code, "(?m)^    (private )?(final )?class "), 0);
        CHECK.due("static fields that are not final", count(code, "(?m)^ +(private )?static (?!final)[\\w\\[\\]]+ \\w+( =|;)"), 0);
        methodsAreShort(code);
        noNameTwice();
        CHECK.end();
    }

    /** No private method bears the name of a public one, and nothing but the face can be seen from outside. */
    private static void noNameTwice() {
        Set<String> face = new HashSet<>();
        for (Method method : SillHouse.class.getDeclaredMethods()) {
            if (Modifier.isPublic(method.getModifiers())) {
                face.add(method.getName());
            }
        }
        List<Class<?>> classes = new ArrayList<>(List.of(SillHouse.class.getDeclaredClasses()));
        classes.add(SillHouse.class);
        for (Class<?> one : classes) {
            for (Method method : one.getDeclaredMethods()) {
                boolean twice = !Modifier.isPublic(method.getModifiers()) && face.contains(method.getName());
                CHECK.due("face's name in " + method, twice ? 1 : 0, 0);
            }
            long fields = Arrays.stream(one.getDeclaredFields()).filter(f -> !Modifier.isStatic(f.getModifiers())).count();
            CHECK.due("fields, some twenty at most, of " + one, fields <= 20 ? 1 : 0, 1);
        }
        for (Field field : SillHouse.class.getDeclaredFields()) {
            boolean closed = (field.getModifiers() & (Modifier.PUBLIC | Modifier.PRIVATE)) != 0;
            CHECK.due("public or private " + field, closed ? 1 : 0, 1);
        }
    }

    private static int count(String code, String word) {
        Matcher matcher = Pattern.compile(word).matcher(code);
        int count = 0;
        while (matcher.find()) {
            count++;
        }
        return count;
    }

    private static void methodsAreShort(String code) {
        Matcher head = Pattern.compile("(?m)^( +)[\\w\\[\\] ]+\\(([\\w\\[\\], ]*)\\) \\{$").matcher(code);
        int methods = 0;
        while (head.find()) {
            if (head.group().matches(" +(if|for|while|switch) .*")) {
                continue;
            }
            methods++;
            int end = code.indexOf("\n" + head.group(1) + "}\n", head.end());
            String name = head.group().trim();
            CHECK.due("sixty lines of " + name, code.substring(head.start(), end).lines().count() <= 60 ? 1 : 0, 1);
            CHECK.due("seven parameters of " + name, head.group(2).split(",").length <= 7 ? 1 : 0, 1);
        }
        CHECK.due("methods were found", methods > 60 ? 1 : 0, 1);
    }
}
