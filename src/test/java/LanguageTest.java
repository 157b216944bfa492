import java.io.IOException;
import java.nio.file.Files;
import java.nio.file.Path;
import java.util.List;
import java.util.regex.Matcher;
import java.util.regex.Pattern;

/** Rules of LANGUAGE.md that a look at the source can tell; run from the project's folder. */
public final class LanguageTest {
    private static final Check check = new Check();
    private static final Path SOURCE = Path.of("src/main/java/DialWardens.java");
    private static final int LINES_MAX = 70;
    private static final int CLASSES_MAX = 14;
    private static final String[][] NEVER = {
        {"rule 2 (no lambda)", "^(?!\\s*(case|default)\\b).*->"},
        {"rule 2 (no method reference)", "::"},
        {"rule 3 (no such types)", "\\b(Object|Double|Float|Character|Boolean|Long|Short|Byte)\\b(?!\\.)"},
        {"rule 4 (not in the library)", "\\bimport (?!java\\.util\\.(ArrayList|List|Arrays|Iterator|NoSuchElementException);)"},
        {"rule 4 (not in the library)", "\\bSystem\\.(?!arraycopy\\()|\\b(Double|Float)\\.|\\bMath\\.\\w+Exact\\b|\\w+Exact\\("},
        {"rule 6 (no such statement)", "\\b(finally|assert|synchronized)\\b|\\btry \\("},
        {"rule 6 (what is thrown)", "\\bthrow (?!new (IllegalState|IllegalArgument|IndexOutOfBounds|Arithmetic"
            + "|UnsupportedOperation|NoSuchElement|Runtime)Exception\\((\"\")?\\);)"},
        {"no package", "\\bpackage\\b"}
    };

    public static void main(String[] args) throws IOException {
        List<String> lines = Files.readAllLines(SOURCE);
        for (int i = 0; i < lines.size(); i++) {
            look(i + 1, lines.get(i));
        }
        lengths(lines);
        check.end();
    }

    private static void look(int number, String line) {
        for (char sign : line.toCharArray()) {
            if (sign < 1 || sign > 127) {
                check.tell("line " + number + ": the sign " + (int) sign);
            }
        }
        String code = line.replaceAll("\"[^\"]*\"", "\"\"").replaceAll("//.*|^\\s*/?\\*.*", "");
        for (String[] rule : NEVER) {
            Matcher found = Pattern.compile(rule[1]).matcher(code);
            if (found.find()) {
                check.tell("line " + number + ", " + rule[0] + ": " + found.group());
            }
        }
    }

    private static void lengths(List<String> lines) {
        int classes = 0;
        int start = 0;
        for (int i = 0; i < lines.size(); i++) {
            String line = lines.get(i);
            classes += line.matches(".*\\b(class|interface|enum|record) \\w+.*\\{") ? 1 : 0;
            if (line.matches("\\s+[\\w\\[\\] ]+\\(.*\\{") && !line.matches("\\s+(if|for|while|switch) .*")) {
                start = i;
            }
            if (line.matches(" {4}}| {8}}") && start > 0 && i - start > LINES_MAX) {
                check.tell("line " + (start + 1) + ": a long method");
            }
        }
        if (classes > CLASSES_MAX) {
            check.tell("classes: " + classes);
        }
    }
}
