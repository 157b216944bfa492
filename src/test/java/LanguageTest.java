import java.io.IOException;
import java.nio.file.Files;
import java.nio.file.Path;
import java.util.List;
import java.util.regex.Matcher;
import java.util.regex.Pattern;

/** Rules of LANGUAGE.md that a look at the source can tell; run from the project's folder. */
public final class LanguageTest {
    private static final Check check = new Check();
    private static final Path SOURCE = Path.of("src/main/java/DialWardens.java");
    private static final String[] NEVER = {
        "\\bimport\\b", "\\bpackage\\b", "->", "::", "\\bcatch\\b", "\\bfinally\\b", "\\bassert\\b",
        "\\bsynchronized\\b", "\\bMath\\b", "Exact\\b", "\\bDouble\\b", "\\bFloat\\b", "\\bSystem\\b",
        "\\bObject\\b", "@", "\\bprotected\\b", "\\bvar\\b", "\\bthrow [^n]", "throw new (?!(IllegalState|IllegalArgument"
        + "|IndexOutOfBounds|Arithmetic|UnsupportedOperation|NoSuchElement|Runtime)Exception)"
    };

    public static void main(String[] args) throws IOException {
        List<String> lines = Files.readAllLines(SOURCE);
        for (int i = 0; i < lines.size(); i++) {
            look(i + 1, lines.get(i));
        }
        lengths(lines);
        check.end();
    }

    private static void look(int number, String line) {
        for (char sign : line.toCharArray()) {
            if (sign < 32 || sign > 126) {
                check.tell("line " + number + ": the sign " + (int) sign);
            }
        }
        String code = line.replaceAll("\"[^\"]*\"", "\"\"").replaceAll("//.*|^\\s*/\\*.*", "");
        for (String rule : NEVER) {
            Matcher found = Pattern.compile(rule).matcher(code);
            if (found.find()) {
                check.tell("line " + number + ": " + found.group());
            }
        }
    }

    private static void lengths(List<String> lines) {
        int classes = 0;
        int start = 0;
        for (int i = 0; i < lines.size(); i++) {
            String line = lines.get(i);
            classes += line.matches(".*\\bclass \\w+ \\{") ? 1 : 0;
            if (line.matches("\\s+[\\w\\[\\] ]+\\(.*\\{") && !line.matches("\\s+(if|for|while|switch) .*")) {
                start = i;
            }
            if (line.matches(" {4}}| {8}}") && start > 0 && i - start > 60) {
                check.tell("line " + (start + 1) + ": a long method");
            }
        }
        if (classes > 12) {
            check.tell("classes: " + classes);
        }
    }
}
