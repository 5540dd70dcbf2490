import java.io.IOException;
import java.nio.file.Files;
import java.nio.file.Path;
import java.util.regex.Matcher;
import java.util.regex.Pattern;

/** Looks through the class's source, named by the first argument, for what LANGUAGE.md leaves out. */
final class LanguageTest {
    private static final String[] BARRED = {
        "^\\s*package\\b", "^\\s*import\\b", "->", "::", "\\bassert\\b", "\\bsynchronized\\b", "\\bfinally\\b", "\\btry\\b",
        "\\bcatch\\b", "\\bstatic\\s*\\{", "\\bprotected\\b", "\\bvar\\b", "Exact\\b", "\\bSystem\\.(?!arraycopy\\b)",
        "\\bThread\\b", "\\bRandom\\b", "\\bDouble\\b", "\\bFloat\\b", "\\bequals\\b", "\\bhashCode\\b", "\\btoString\\b",
        "\\bwhile\\s*\\(\\s*true", "for\\s*\\(\\s*;", "\"\\s*\\+", "\\+\\s*\"", "\\bnew\\s+\\w+\\s*\\[.*\\bfor\\b",
    };
    private static final Pattern THROWN = Pattern.compile("throw\\s+([^;]*);");
    private static final Pattern MADE = Pattern.compile("\\bnew\\s+(\\w+)");
    private static final int MOST_LINES = 60;

    public static void main(String[] args) throws IOException {
        Check.about("LANGUAGE.md");
        String path = args.length > 0 ? args[0] : "src/main/java/ClueGrid.java";
        String source = Files.readString(Path.of(path));
        signs(source);
        String code = withoutComments(source);
        for (String barred : BARRED) {
            Matcher found = Pattern.compile(barred, Pattern.MULTILINE).matcher(code);
            while (found.find()) {
                Check.fail("line " + lineOf(code, found.start()) + " holds " + barred);
            }
        }
        exceptions(code);
        lengths(code);
        Check.end("LanguageTest");
    }

    private static void signs(String source) {
        for (int i = 0; i < source.length(); i++) {
            char sign = source.charAt(i);
            if (sign > 126 || sign == '\t') {
                Check.fail("line " + lineOf(source, i) + " holds the sign " + (int) sign);
            }
        }
    }

    /** Comments become blanks, so that the numbers of lines stay. */
    private static String withoutComments(String source) {
        Matcher comment = Pattern.compile("//[^\n]*|/\\*.*?\\*/", Pattern.DOTALL).matcher(source);
        return comment.replaceAll(found -> found.group().replaceAll("[^\n]", " "));
    }

    private static void exceptions(String code) {
        Matcher thrown = THROWN.matcher(code);
        while (thrown.find()) {
            if (!thrown.group(1).matches("new (IllegalState|IllegalArgument|IndexOutOfBounds)Exception\\((\"[^\"]*\")?\\)")) {
                Check.fail("line " + lineOf(code, thrown.start()) + " throws " + thrown.group(1));
            }
        }
        Matcher made = MADE.matcher(code);
        while (made.find()) {
            boolean isLater = !made.group(1).endsWith("Exception") && indentOf(code, made.start()) > 8
                    && !code.substring(0, made.start()).endsWith("saved[i] = ");
            Check.due("line " + lineOf(code, made.start()) + " makes an object after the constructor", isLater, false);
        }
    }

    private static void lengths(String code) {
        String[] lines = code.split("\n", -1);
        for (int i = 0; i < lines.length; i++) {
            String indent = lines[i].replaceAll("\\S.*", "");
            boolean begins = lines[i].matches("( {4}| {8})\\S.*\\(.*") && !lines[i].endsWith(";");
            for (int k = i + 1; begins && k < lines.length; k++) {
                if (lines[k].equals(indent + "}")) {
                    Check.due("the method at line " + (i + 1) + " is longer than " + MOST_LINES, k - i >= MOST_LINES, false);
                    break;
                }
            }
        }
    }

    private static int lineOf(String text, int at) {
        return (int) text.substring(0, at).chars().filter(sign -> sign == '\n').count() + 1;
    }

    private static int indentOf(String text, int at) {
        int begin = text.lastIndexOf('\n', at) + 1;
        int indent = 0;
        while (text.charAt(begin + indent) == ' ') {
            indent++;
        }
        return indent;
    }
}
