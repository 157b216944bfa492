import java.io.IOException;
import java.io.InputStream;
import java.lang.reflect.Method;
import java.lang.reflect.Modifier;
import java.nio.charset.StandardCharsets;
import java.nio.file.DirectoryStream;
import java.nio.file.Files;
import java.nio.file.Path;
import java.util.ArrayList;
import java.util.Arrays;
import java.util.List;
import java.util.regex.Matcher;
import java.util.regex.Pattern;

/**
 * README.md tells what holds: its programs are compiled and run as they stand there, by the commands that stand there,
 * beside a copy of the class, and must print the answers in their comments. No call of the class and no test is missing.
 */
public final class ReadmeTest {
    private static final Check check = new Check();
    private static final Path PAGE = Path.of("README.md");
    private static final Path SOURCE = Path.of("src/main/java/DialWardens.java");
    private static final Path TESTS = Path.of("src/test/java");
    private static final String FIRST = "FirstRun";
    /** What an example must be about, so that none of them gets lost. */
    private static final String[] EXAMPLES = {FIRST, "Refusals", "Backwards", "Texts"};
    private static final String PRINT = "System.out.println(";
    private static final Pattern ANSWER = Pattern.compile("\\);\\s*// (.*?)(: .*)?$");

    public static void main(String[] args) throws IOException, InterruptedException {
        String page = Files.readString(PAGE);
        examples(page);
        calls(page);
        tests(page);
        check.end();
    }

    private static void examples(String page) throws IOException, InterruptedException {
        List<String> programs = blocks(page, "java");
        List<String> commands = blocks(page, "sh");
        List<String> names = new ArrayList<>();
        for (String program : programs) {
            names.add(nameOf(program));
        }
        if (!names.equals(Arrays.asList(EXAMPLES))) {
            check.tell("the examples are " + names);
            return;
        }
        if (commands.isEmpty() || !commands.get(0).contains(FIRST)) {
            check.tell("no commands for the first run");
            return;
        }
        for (int i = 0; i < programs.size(); i++) {
            example(names.get(i), programs.get(i), commands.get(0).replace(FIRST, names.get(i)));
        }
    }

    private static List<String> blocks(String page, String language) {
        List<String> found = new ArrayList<>();
        Matcher block = Pattern.compile("(?ms)^```" + language + "\n(.*?)^```$").matcher(page);
        while (block.find()) {
            found.add(block.group(1));
        }
        return found;
    }

    private static String nameOf(String program) {
        Matcher name = Pattern.compile("^public final class (\\w+) \\{").matcher(program);
        return name.find() ? name.group(1) : "";
    }

    private static void example(String name, String program, String commands) throws IOException, InterruptedException {
        Path folder = Files.createTempDirectory("readme");
        try {
            Files.copy(SOURCE, folder.resolve(SOURCE.getFileName()));
            Files.writeString(folder.resolve(name + ".java"), program);
            compare(name, printedBy(folder, commands), answersIn(name, program));
        } finally {
            remove(folder);
        }
    }

    private static List<String> answersIn(String name, String program) {
        List<String> answers = new ArrayList<>();
        for (String line : program.split("\n")) {
            if (!line.contains(PRINT)) {
                continue;
            }
            Matcher answer = ANSWER.matcher(line);
            if (answer.find()) {
                answers.add(answer.group(1));
            } else {
                check.tell(name + " does not tell what is printed by" + line);
            }
        }
        return answers;
    }

    private static List<String> printedBy(Path folder, String commands) throws IOException, InterruptedException {
        Process run = new ProcessBuilder("sh", "-e", "-c", commands)
            .directory(folder.toFile()).redirectError(ProcessBuilder.Redirect.INHERIT).start();
        List<String> printed = new ArrayList<>();
        try (InputStream out = run.getInputStream()) {
            for (String line : new String(out.readAllBytes(), StandardCharsets.UTF_8).split("\n")) {
                printed.add(line);
            }
        }
        int exit = run.waitFor();
        if (exit != 0) {
            check.tell("these commands ended with " + exit + ":\n" + commands);
        }
        return printed;
    }

    private static void compare(String name, List<String> printed, List<String> answers) {
        if (answers.isEmpty()) {
            check.tell(name + " shows no answers");
        }
        for (int i = 0; i < printed.size() || i < answers.size(); i++) {
            String got = i < printed.size() ? printed.get(i) : "nothing";
            String due = i < answers.size() ? answers.get(i) : "nothing";
            if (!got.equals(due)) {
                check.tell(name + ", answer " + (i + 1) + ": printed is " + got + ", README.md shows " + due);
            }
        }
    }

    private static void remove(Path folder) throws IOException {
        try (DirectoryStream<Path> files = Files.newDirectoryStream(folder)) {
            for (Path file : files) {
                Files.delete(file);
            }
        }
        Files.delete(folder);
    }

    private static void calls(String page) {
        for (Method method : DialWardens.class.getDeclaredMethods()) {
            boolean isOfTheFace = Modifier.isPublic(method.getModifiers());
            if (isOfTheFace && !page.contains("\n| `" + method.getName() + "(")) {
                check.tell("README.md does not name the call " + method.getName());
            }
        }
    }

    private static void tests(String page) throws IOException {
        List<String> due = new ArrayList<>();
        try (DirectoryStream<Path> files = Files.newDirectoryStream(TESTS, "*Test.java")) {
            for (Path file : files) {
                due.add(file.getFileName().toString().replace(".java", ""));
            }
        }
        List<String> named = new ArrayList<>();
        Matcher row = Pattern.compile("(?m)^\\| `(\\w+Test)` \\|").matcher(page);
        while (row.find()) {
            named.add(row.group(1));
        }
        due.sort(null);
        named.sort(null);
        if (!named.equals(due)) {
            check.tell("the tests are " + due + ", README.md names " + named);
        }
    }
}
