import java.io.IOException;
import java.lang.reflect.Method;
import java.lang.reflect.Modifier;
import java.util.ArrayList;
import java.util.Collections;
import java.util.List;

/** Each sentence of the document has a test that quotes it; that none is left out is tested, too. */
public final class SentencesTest {
    private static final Check CHECK = new Check("SentencesTest");

    public static void main(String[] args) throws IOException {
        Doc doc = new Doc(CHECK);
        face();
        new RefusalSentences(CHECK, doc).run();
        new HouseSentences(CHECK, doc).run();
        new FolkSentences(CHECK, doc).run();
        new WaysSentences(CHECK, doc).run();
        new SheetSentences(CHECK, doc).run();
        doc.allIsQuoted();
        theLastOfAllCalls();
        CHECK.end();
    }

    /** The class has each method and constant that the face tells, and no other. */
    private static void face() throws IOException {
        List<String> due = new ArrayList<>();
        int constants = 0;
        for (String line : Doc.face()) {
            if (line.contains("static final")) {
                constants += line.split(",").length;
            } else if (line.contains(" ") && !line.contains("public SillHouse(")) {
                due.add(line.trim().replace("public ", "").replaceAll("(int|long) (\\w+)([,)])", "$1$3").replace(";", ""));
            }
        }
        List<String> is = new ArrayList<>();
        for (Method method : SillHouse.class.getDeclaredMethods()) {
            if (Modifier.isPublic(method.getModifiers())) {
                List<String> types = new ArrayList<>();
                for (Class<?> type : method.getParameterTypes()) {
                    types.add(type.getName());
                }
                is.add(method.getReturnType() + " " + method.getName() + "(" + String.join(", ", types) + ")");
            }
        }
        Collections.sort(due);
        Collections.sort(is);
        CHECK.due("the methods of the face: " + due + ", of the class: " + is, is.equals(due) ? 1 : 0, 1);
        CHECK.due("methods of the face", due.size(), 30);
        CHECK.due("constants of the class", SillHouse.class.getFields().length, constants);
        CHECK.due("constructors of the class", SillHouse.class.getConstructors().length, 1);
    }

    /** An object answers up to its 512th call. */
    private static void theLastOfAllCalls() {
        SillHouse x = Check.housed("h6;w0115;w1005;w1215;w2105;w2315;w3205;w3415;w4305");
        int calls = 52;
        x.person(10, 0);
        x.person(10, 0);
        for (int s = 0; s < 4; s++) {
            x.stone(1, s);
        }
        for (calls += 6; calls < 510; calls++) {
            CHECK.due("no way", x.fewest(0, 5, -1), -9);
        }
        CHECK.due("call 511", x.fewest(1, 4, -1), 4);
        CHECK.due("call 512", x.laid(1, 4, 0), -9);
    }
}
