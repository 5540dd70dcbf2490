import java.io.IOException;
import java.nio.file.Files;
import java.nio.file.Path;
import java.util.ArrayList;
import java.util.List;

/** DOC.md as the tests read it: by sections, without the signs for code; it stands where -Dshared says. */
final class Document {
    static final int PROMISES = 47;
    /** The sections ahead of the first promise, and behind the last one. */
    static final int TERMS = 0;
    static final int NOT_PROMISED = PROMISES + 1;

    private final String text;

    private Document(String text) {
        this.text = text;
    }

    static Path path() {
        return Path.of(System.getProperty("shared", "../shared"), "DOC.md");
    }

    static boolean isThere() {
        return Files.isReadable(path());
    }

    static Document read() throws IOException {
        return new Document(Files.readString(path()).replace("`", ""));
    }

    /** The promise of this number, or one of the two sections around the promises. */
    String section(int number) {
        int begin = number == TERMS ? 0 : text.indexOf(heading(number));
        int end = number == NOT_PROMISED ? text.length() : text.indexOf(heading(number + 1));
        Check.due("the section " + number + " is there", begin >= 0 && end > begin, true);
        return begin >= 0 && end > begin ? text.substring(begin, end) : "";
    }

    private static String heading(int number) {
        return number == NOT_PROMISED ? "\n## Not promised\n" : "\n## Promise " + number + ": ";
    }

    /** The lines of the face, without "public" and ";". */
    List<String> face() {
        List<String> lines = new ArrayList<>();
        for (String line : section(TERMS).split("\n")) {
            if (line.startsWith("    public ") && line.endsWith(";")) {
                lines.add(line.substring("    public ".length(), line.length() - 1));
            }
        }
        return lines;
    }

    /** How the promise tells the call, as in the face. */
    String signature(int promise) {
        for (String line : section(promise).split("\n")) {
            if (line.contains("): ") || line.contains("Exception: ")) {
                return line.substring(0, line.indexOf(": "));
            }
        }
        return "";
    }
}
