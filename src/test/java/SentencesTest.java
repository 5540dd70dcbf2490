import java.io.IOException;
import java.lang.reflect.Method;
import java.nio.file.Files;
import java.nio.file.Path;
import java.util.ArrayList;
import java.util.List;
import java.util.Map;
import java.util.TreeMap;

/**
 * Holds the tests of the boundaries against DOC.md, which stands in the directory
 * that -Dshared names: the words that a test quotes stand under its promise or
 * under the terms, and each sentence of the document is quoted by some test.
 */
final class SentencesTest {
    private static final Class<?>[] TESTS = {CluesBoundariesTest.class, CrossesBoundariesTest.class, TextsBoundariesTest.class,
        StatesBoundariesTest.class, LooksBoundariesTest.class, PropagationBoundariesTest.class, SolutionsBoundariesTest.class};
    private static final int PROMISES = 47;
    /** Sentences that name no boundary of their own. */
    private static final String[] NO_BOUNDARY = {"All numbers are whole numbers, but for two shares."};

    private static final Map<Integer, String> SECTION = new TreeMap<>();
    private static final Map<Integer, List<String>> QUOTED = new TreeMap<>();

    public static void main(String[] args) throws IOException {
        Check.about("the sentences of DOC.md");
        Path doc = Path.of(System.getProperty("shared", "../shared"), "DOC.md");
        if (!Files.isReadable(doc)) {
            System.out.println("SentencesTest: there is no " + doc + ", so nothing is compared");
            return;
        }
        readSections(Files.readString(doc).replace("`", ""));
        for (Class<?> tests : TESTS) {
            for (Method test : Cases.testsOf(tests)) {
                quotes(test);
            }
        }
        for (int promise = 1; promise <= PROMISES; promise++) {
            linesOf(promise);
        }
        terms();
        Check.end("SentencesTest");
    }

    /** What stands ahead of the first promise has the number 0. */
    private static void readSections(String doc) {
        for (int promise = 0; promise <= PROMISES; promise++) {
            int begin = promise == 0 ? 0 : doc.indexOf("## Promise " + promise + ":");
            int end = doc.indexOf("\n## " + (promise == PROMISES ? "Not promised" : "Promise " + (promise + 1) + ":"));
            Check.due("the section " + promise + " is there", begin >= 0 && end > begin, true);
            SECTION.put(promise, begin >= 0 && end > begin ? doc.substring(begin, end) : "");
            QUOTED.put(promise, new ArrayList<>());
        }
    }

    private static void quotes(Method test) {
        int promise = Cases.promiseOf(test);
        Says says = test.getAnnotation(Says.class);
        if (says == null || !SECTION.containsKey(promise) || promise == 0) {
            Check.fail(test.getName() + " quotes nothing, or has no promise's number");
            return;
        }
        for (String words : says.value()) {
            String plain = words.replace("`", "");
            boolean isThere = SECTION.get(promise).contains(plain) || SECTION.get(0).contains(plain);
            Check.due(test.getName() + " quotes what stands there: " + plain, isThere, true);
            QUOTED.get(promise).add(plain);
        }
    }

    /** Each parameter, answer, exception and mark of a promise has a test of that promise. */
    private static void linesOf(int promise) {
        Check.due("a test of the promise " + promise, QUOTED.get(promise).isEmpty(), false);
        for (String line : SECTION.get(promise).split("\n")) {
            if (line.startsWith("- ") || line.startsWith("Returns ") || line.startsWith("Throws ")) {
                Check.due("a test of the promise " + promise + " quotes of: " + line, isQuoted(promise, line), true);
            }
            if (line.contains("Undoable")) {
                Check.due("a test of the promise " + promise + " quotes the mark", quotesMark(promise), true);
            }
        }
    }

    private static boolean isQuoted(int promise, String line) {
        for (String words : QUOTED.get(promise)) {
            if (line.contains(words)) {
                return true;
            }
        }
        return false;
    }

    private static boolean quotesMark(int promise) {
        for (String words : QUOTED.get(promise)) {
            if (words.contains("Undoable")) {
                return true;
            }
        }
        return false;
    }

    /** The terms stand between their heading and the constants. */
    private static void terms() {
        String ahead = SECTION.get(0);
        int begin = ahead.indexOf("## Terms");
        int end = ahead.indexOf("The constants:");
        Check.due("the terms are there", begin >= 0 && end > begin, true);
        for (String line : begin >= 0 && end > begin ? ahead.substring(begin, end).split("\n") : new String[0]) {
            for (String sentence : line.split("(?<=\\.)\\s+")) {
                if (sentence.endsWith(".") || sentence.endsWith(";") || sentence.endsWith(")")) {
                    Check.due("some test quotes of: " + sentence, isQuotedByAny(sentence), true);
                }
            }
        }
    }

    private static boolean isQuotedByAny(String sentence) {
        for (String none : NO_BOUNDARY) {
            if (sentence.equals(none)) {
                return true;
            }
        }
        for (int promise : QUOTED.keySet()) {
            for (String words : QUOTED.get(promise)) {
                if (sentence.contains(words) || words.contains(sentence)) {
                    return true;
                }
            }
        }
        return false;
    }
}
