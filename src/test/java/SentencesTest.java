import java.io.IOException;
import java.nio.file.Files;
import java.nio.file.Path;
import java.util.ArrayList;
import java.util.List;

/**
 * The tests of the edges name the sentences that they test, by check.promise(number, words). These words must stand in the
 * document, and each sentence of the document must be named by a test, or stand here as one that names no boundary.
 */
public final class SentencesTest {
    private static final Check check = new Check();
    private static final Path DOCUMENT = Path.of("../shared/DOC.md");
    private static final int PROMISES = 27;
    /** Headings, signatures, names of arguments, what the document is about, and how the interface is parted. */
    private static final String SAYS_NOTHING = "^#.*|^\\d+: .*|^(`[^`]*`|- `\\w+`): |^Wardens of public dials .*"
        + "|^Ahead of the calls .* ---- [a-z ,]*";
    private static final String[] WITHOUT_A_BOUNDARY = {
        "Lets ticks pass",
        "Lets the wardens vote",
        "Corrects the dials",
        "Changes the drift of a dial",
        "Changes the weight and the lie of a warden",
        "Changes a setting",
        "Appends a character to the buffer",
        "Finds the first syntax error of the buffer",
        "Tells something of a dial",
        "Tells something of a warden",
        "Returns a number",
        "Returns the number",
        "Returns a setting",
        "Tells the middle of a vote without a warden",
        "Finds the warden whose vote matters most",
        "Tells with which weight a warden would win",
        "Tells when two neighbours quarrel, if ticks alone pass",
        "Tells when a dial rings again, if ticks alone pass",
        "Returns how often the town held",
        "Returns the mean difference of the dials",
        "Computes a hash of the whole state",
        "Returns the hash",
        "what later calls answer is free",
        "All numbers are integers, but for two shares",
        "Dials, ticks",
        "Wardens, votes"
    };

    public static void main(String[] args) throws IOException {
        if (!Files.isRegularFile(DOCUMENT)) {
            System.out.println("no document to look into: " + DOCUMENT);
            return;
        }
        EdgesOfTownTest.main(args);
        EdgesOfHandsTest.main(args);
        EdgesOfTextTest.main(args);
        EdgesOfUndoTest.main(args);
        EdgesOfLooksTest.main(args);
        EdgesOfWouldBeTest.main(args);
        String text = Files.readString(DOCUMENT).replaceAll("(?s)```java.*?```", "").replaceAll("(?s)## Not promised.*", "");
        look(text.split("## Promise (?=\\d)"));
        check.end();
    }

    private static void look(String[] sections) {
        if (sections.length != PROMISES + 1) {
            check.tell("promises in the document: " + (sections.length - 1));
            return;
        }
        List<String> ofTerms = new ArrayList<>();
        for (int promise = 1; promise <= PROMISES; promise++) {
            List<String> ofPromise = new ArrayList<>();
            for (String words : named(promise)) {
                boolean isItsOwn = plain(sections[promise]).contains(words);
                (isItsOwn ? ofPromise : ofTerms).add(words);
                if (!isItsOwn && !plain(sections[0]).contains(words)) {
                    check.tell("promise " + promise + " does not rest on \"" + words + "\"");
                }
            }
            sentencesAreNamed("promise " + promise, sections[promise], ofPromise);
        }
        sentencesAreNamed("the sections ahead of the promises", sections[0], ofTerms);
    }

    private static List<String> named(int promise) {
        List<String> words = new ArrayList<>();
        for (String each : Check.named()) {
            if (each.startsWith(promise + " ")) {
                words.add(each.substring(each.indexOf(' ') + 1));
            }
        }
        return words;
    }

    private static String plain(String text) {
        return text.replaceAll("\\s+", " ");
    }

    private static void sentencesAreNamed(String where, String section, List<String> words) {
        for (String line : section.split("\n")) {
            String said = line.replaceFirst(SAYS_NOTHING, "");
            for (String part : said.split("(?<=[.;])\\s+")) {
                String sentence = plain(part).replaceFirst("[.;]$", "").trim();
                if (!sentence.isEmpty() && !isNamed(sentence, words)) {
                    check.tell(where + ": no test names \"" + sentence + "\"");
                }
            }
        }
    }

    private static boolean isNamed(String sentence, List<String> words) {
        for (String each : words) {
            if (sentence.contains(each) || each.contains(sentence)) {
                return true;
            }
        }
        for (String each : WITHOUT_A_BOUNDARY) {
            if (sentence.equals(each)) {
                return true;
            }
        }
        return false;
    }
}
