import java.io.IOException;
import java.nio.file.Files;
import java.nio.file.Path;
import java.util.ArrayList;
import java.util.List;

/**
 * The document's own words. A test quotes the sentence that it is for, so that a sentence that is changed, or that no
 * test is for, is seen.
 */
final class Doc {
    static final int TERMS = 0;
    static final int PROMISES = 31;

    private static final Path FILE = Path.of("../shared/DOC.md");

    private final Check check;
    private final List<String> sections = new ArrayList<>();
    private final List<boolean[]> quoted = new ArrayList<>();

    Doc(Check check) throws IOException {
        this.check = check;
        List<StringBuilder> told = new ArrayList<>();
        for (String line : Files.readAllLines(FILE)) {
            if (line.equals("## Terms") || line.startsWith("## Promise ")) {
                told.add(new StringBuilder());
            } else if (line.equals("## Not promised")) {
                break;
            } else if (!told.isEmpty() && isSaid(line)) {
                told.get(told.size() - 1).append(' ').append(line.replaceFirst("^`[^`]*`: ", ""));
            }
        }
        for (StringBuilder section : told) {
            sections.add(section.toString().replaceAll("[= \n]+", " "));
            quoted.add(new boolean[section.length()]);
        }
        check.due("sections of the document", sections.size(), PROMISES + 1);
    }

    /** The lines of Java of the public face. */
    static List<String> face() throws IOException {
        List<String> all = Files.readAllLines(FILE);
        int from = all.indexOf("public final class SillHouse {");
        return all.subList(from + 1, from + 1 + all.subList(from + 1, all.size()).indexOf("}"));
    }

    private static boolean isSaid(String line) {
        return !line.startsWith("```") && !line.startsWith("Ahead of the calls ");
    }

    /** What follows tests what a section (0 the terms, else a promise) says in these words. */
    void says(int section, String words) {
        String text = sections.get(section);
        int at = text.indexOf(words);
        check.due("section " + section + " says: " + words, at < 0 ? 0 : 1, 1);
        for (; at >= 0; at = text.indexOf(words, at + 1)) {
            for (int k = 0; k < words.length(); k++) {
                quoted.get(section)[at + k] = true;
            }
        }
    }

    /** That no word of the document is left without a test. */
    void allIsQuoted() {
        for (int section = 0; section < sections.size(); section++) {
            String text = sections.get(section);
            StringBuilder left = new StringBuilder();
            for (int at = 0; at < text.length(); at++) {
                if (!quoted.get(section)[at] && Character.isLetterOrDigit(text.charAt(at))) {
                    left.append(text.charAt(at));
                }
            }
            check.due("letters of section " + section + " without a test: " + left, left.length(), 0);
        }
    }
}
