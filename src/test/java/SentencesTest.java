import java.io.IOException;
import java.lang.reflect.Method;
import java.util.ArrayList;
import java.util.List;
import java.util.Map;
import java.util.TreeMap;

/**
 * Holds the tests against DOC.md, from its first line to its last: the words that
 * a test quotes stand under its promise or under the terms, and each word of the
 * document is quoted by a test, is in the face, which FaceTest reads, or stands in
 * a sentence that is named here, as no test can hold the class to it.
 */
final class SentencesTest {
    private static final Class<?>[] TESTS = {CluesBoundariesTest.class, CrossesBoundariesTest.class, TextsBoundariesTest.class,
        StatesBoundariesTest.class, LooksBoundariesTest.class, PropagationBoundariesTest.class, SolutionsBoundariesTest.class,
        PurposesTest.class};
    private static final String[] HEADINGS = {"Items, places, arrangements", "Crosses, solutions"};
    /** Sentences that no test quotes, and why. */
    private static final String[] FREE = {
        // tells in one sentence what all the others tell
        "Logic grid of four places and twelve items with clues that propagate: items of three kinds, each of which stands at one place, "
            + "clues of seven sorts, crosses that are made by hand, places that are ruled out round by round until nothing changes, "
            + "told in two ways, contradictions, solutions told by trying all arrangements and by search, the places that an item has in "
            + "all solutions, hints, clues that can be spared and clues that are to blame, what is settled of the grid, crosses in accounts "
            + "told in two ways, clues and crosses as texts with errors by place, a snapshot and undo.",
        // FaceTest looks at the types of all answers and parameters
        "All numbers are whole numbers, but for two shares.",
        // what is free, and what is not promised, is right as it is
        "How the state is held inside the object is free, as are the speed of each call, the text of toString and the behaviour of equals and hashCode.",
        "Use of one object from several threads at once is not promised to be safe.",
        "Nothing is promised beyond the answers and state changes described above, and nothing about an object after its 512th call.",
    };

    private static final Map<Integer, List<String>> QUOTED = new TreeMap<>();

    public static void main(String[] args) throws IOException {
        Check.about("the sentences of DOC.md");
        if (!Document.isThere()) {
            System.out.println("SentencesTest: there is no " + Document.path() + ", so nothing is compared");
            return;
        }
        Document document = Document.read();
        for (int section = Document.TERMS; section <= Document.NOT_PROMISED; section++) {
            QUOTED.put(section, new ArrayList<>());
        }
        for (Class<?> tests : TESTS) {
            for (Method test : Cases.testsOf(tests)) {
                quotes(document, test);
            }
        }
        for (int section = Document.TERMS; section <= Document.NOT_PROMISED; section++) {
            eachWord(document, section);
        }
        for (String free : FREE) {
            boolean isThere = document.section(Document.TERMS).contains(free) || document.section(Document.NOT_PROMISED).contains(free);
            Check.due("DOC.md says: " + free, isThere, true);
        }
        Check.end("SentencesTest");
    }

    private static void quotes(Document document, Method test) {
        int promise = Cases.promiseOf(test);
        Says says = test.getAnnotation(Says.class);
        if (says == null || promise < 1 || promise > Document.PROMISES) {
            Check.fail(test.getName() + " quotes nothing, or has no promise's number");
            return;
        }
        for (String words : says.value()) {
            String plain = words.replace("`", "");
            boolean isOfThePromise = document.section(promise).contains(plain);
            boolean isOfTheTerms = document.section(Document.TERMS).contains(plain);
            Check.due(test.getName() + " quotes what stands there: " + plain, isOfThePromise || isOfTheTerms, true);
            QUOTED.get(promise).add(plain);
            QUOTED.get(Document.TERMS).add(plain);
        }
    }

    private static void eachWord(Document document, int section) {
        String text = document.section(section);
        boolean[] isHeld = new boolean[text.length()];
        for (String words : QUOTED.get(section)) {
            hold(text, words, isHeld);
        }
        for (String free : FREE) {
            hold(text, free, isHeld);
        }
        if (section >= 1 && section <= Document.PROMISES) {
            hold(text, document.signature(section) + ": ", isHeld);
        }
        int begin = 0;
        boolean isInFace = false;
        for (String line : text.split("\n", -1)) {
            boolean isFence = line.equals("java") || isInFace && line.equals("}");
            isInFace = line.equals("java") || isInFace && !isFence;
            if (!isFence && !isInFace && !isHeading(line)) {
                eachWordOf(line, section, isHeld, begin);
            }
            begin += line.length() + 1;
        }
    }

    /** What stands ahead of the calls is looked at by FaceTest. */
    private static boolean isHeading(String line) {
        for (String heading : HEADINGS) {
            if (line.equals(heading)) {
                return true;
            }
        }
        return line.startsWith("#") || line.startsWith("Ahead of the calls ");
    }

    private static void hold(String text, String words, boolean[] isHeld) {
        for (int at = text.indexOf(words); at >= 0; at = text.indexOf(words, at + 1)) {
            for (int i = 0; i < words.length(); i++) {
                isHeld[at + i] = true;
            }
        }
    }

    private static void eachWordOf(String line, int section, boolean[] isHeld, int begin) {
        StringBuilder missing = new StringBuilder();
        for (int i = 0; i < line.length(); i++) {
            boolean isMissing = !isHeld[begin + i] && (Character.isLetterOrDigit(line.charAt(i)) || missing.length() > 0);
            if (isMissing) {
                missing.append(line.charAt(i));
            } else if (missing.length() > 0) {
                break;
            }
        }
        String where = section == Document.TERMS ? "the terms" : "the section " + section;
        Check.due("what no test quotes of " + where, missing.toString(), "");
    }
}
