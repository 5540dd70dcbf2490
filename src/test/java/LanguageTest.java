import java.io.DataInputStream;
import java.io.IOException;
import java.lang.reflect.Field;
import java.lang.reflect.Method;
import java.lang.reflect.Modifier;
import java.nio.file.Files;
import java.nio.file.Path;
import java.util.List;
import java.util.regex.Matcher;
import java.util.regex.Pattern;

/**
 * Looks through the class's source, named by the first argument, and through the
 * compiled classes for what LANGUAGE.md leaves out.
 */
final class LanguageTest {
    private static final String[] BARRED = {
        "^\\s*package\\b", "^\\s*import\\b", "->", "::", "\\bassert\\b", "\\bsynchronized\\b", "\\bfinally\\b", "\\btry\\b",
        "\\bcatch\\b", "\\bstatic\\s*\\{", "\\bprotected\\b", "\\bvar\\b", "Exact\\b", "\\bSystem\\.(?!arraycopy\\b)",
        "\\bThread\\b", "\\bRandom\\b", "\\bDouble\\b", "\\bFloat\\b", "\\bequals\\b", "\\bhashCode\\b", "\\btoString\\b",
        "\\bwhile\\s*\\(\\s*true", "for\\s*\\(\\s*;", "\"\\s*\\+", "\\+\\s*\"", "\\bnew\\s+\\w+\\s*\\[.*\\bfor\\b",
    };
    private static final Pattern THROWN = Pattern.compile("throw\\s+([^;]*);");
    private static final Pattern MADE = Pattern.compile("\\bnew\\s+(\\w+)");
    private static final int MOST_LINES = 60;
    private static final int MOST_PARAMETERS = 7;
    private static final int MOST_FIELDS = 20;
    /** What the class may call that is not its own: a part of rule 4, and the three exceptions of the face. */
    private static final List<String> LIBRARY = List.of("java/lang/Object.<init>()V", "java/lang/String.indexOf(I)I",
        "java/lang/Integer.bitCount(I)I", "java/lang/Long.bitCount(J)I", "java/lang/System.arraycopy(Ljava/lang/Object;ILjava/lang/Object;II)V",
        "java/lang/IndexOutOfBoundsException.<init>(Ljava/lang/String;)V", "java/lang/IllegalArgumentException.<init>(Ljava/lang/String;)V",
        "java/lang/IllegalStateException.<init>(Ljava/lang/String;)V");

    public static void main(String[] args) throws IOException {
        Check.about("LANGUAGE.md");
        String path = args.length > 0 ? args[0] : "src/main/java/ClueGrid.java";
        String source = Files.readString(Path.of(path));
        signs(source);
        String code = withoutComments(source);
        for (String barred : BARRED) {
            Matcher found = Pattern.compile(barred, Pattern.MULTILINE).matcher(code);
            while (found.find()) {
                Check.fail("line " + lineOf(code, found.start()) + " holds " + barred);
            }
        }
        exceptions(code);
        lengths(code);
        members(ClueGrid.class);
        library(ClueGrid.class);
        for (Class<?> inside : ClueGrid.class.getDeclaredClasses()) {
            members(inside);
            library(inside);
        }
        Check.end("LanguageTest");
    }

    private static void members(Class<?> type) {
        int fields = 0;
        for (Field field : type.getDeclaredFields()) {
            boolean isStatic = Modifier.isStatic(field.getModifiers());
            Check.due(type.getName() + "." + field.getName() + " is static, but not final", isStatic && !Modifier.isFinal(field.getModifiers()), false);
            fields += isStatic ? 0 : 1;
        }
        Check.due(type.getName() + " has too many fields", fields > MOST_FIELDS, false);
        for (Method method : type.getDeclaredMethods()) {
            String name = type.getName() + "." + method.getName();
            Check.due(name + " has too many parameters", method.getParameterCount() > MOST_PARAMETERS, false);
            Check.due(name + " was made by the compiler", method.isSynthetic(), false);
        }
    }

    // ---- the library, by the constants of the compiled class

    private static void library(Class<?> type) throws IOException {
        try (DataInputStream in = new DataInputStream(type.getResourceAsStream(type.getName() + ".class"))) {
            in.skipBytes(8);
            String[] texts = new String[in.readUnsignedShort()];
            int[][] pairs = new int[texts.length][];
            boolean[] isCall = new boolean[texts.length];
            for (int i = 1; i < texts.length; i++) {
                int tag = in.readUnsignedByte();
                switch (tag) {
                    case 1: texts[i] = in.readUTF(); break;
                    case 3: case 4: in.skipBytes(4); break;
                    case 5: case 6: in.skipBytes(8); i++; break;
                    case 7: pairs[i] = new int[] {in.readUnsignedShort()}; break;
                    case 8: in.skipBytes(2); break;
                    case 9: case 10: case 11: case 12:
                        pairs[i] = new int[] {in.readUnsignedShort(), in.readUnsignedShort()};
                        isCall[i] = tag == 10 || tag == 11;
                        break;
                    default: Check.fail(type.getName() + " has a constant of the kind " + tag + ", as for a lambda or joined texts"); return;
                }
            }
            for (int i = 1; i < texts.length; i++) {
                if (isCall[i]) {
                    calls(type, texts[pairs[pairs[i][0]][0]], texts[pairs[pairs[i][1]][0]] + texts[pairs[pairs[i][1]][1]]);
                }
            }
        }
    }

    private static void calls(Class<?> type, String owner, String method) {
        boolean isOwn = owner.equals("ClueGrid") || owner.startsWith("ClueGrid$");
        Check.due(type.getName() + " calls " + owner + "." + method, isOwn || LIBRARY.contains(owner + "." + method), true);
    }

    private static void signs(String source) {
        for (int i = 0; i < source.length(); i++) {
            char sign = source.charAt(i);
            if (sign > 126 || sign == '\t') {
                Check.fail("line " + lineOf(source, i) + " holds the sign " + (int) sign);
            }
        }
    }

    /** Comments become blanks, so that the numbers of lines stay. */
    private static String withoutComments(String source) {
        Matcher comment = Pattern.compile("//[^\n]*|/\\*.*?\\*/", Pattern.DOTALL).matcher(source);
        return comment.replaceAll(found -> found.group().replaceAll("[^\n]", " "));
    }

    private static void exceptions(String code) {
        Matcher thrown = THROWN.matcher(code);
        while (thrown.find()) {
            if (!thrown.group(1).matches("new (IllegalState|IllegalArgument|IndexOutOfBounds)Exception\\((\"[^\"]*\")?\\)")) {
                Check.fail("line " + lineOf(code, thrown.start()) + " throws " + thrown.group(1));
            }
        }
        Matcher made = MADE.matcher(code);
        while (made.find()) {
            boolean isLater = !made.group(1).endsWith("Exception") && indentOf(code, made.start()) > 8
                    && !code.substring(0, made.start()).endsWith("saved[i] = ");
            Check.due("line " + lineOf(code, made.start()) + " makes an object after the constructor", isLater, false);
        }
    }

    private static void lengths(String code) {
        String[] lines = code.split("\n", -1);
        for (int i = 0; i < lines.length; i++) {
            String indent = lines[i].replaceAll("\\S.*", "");
            boolean begins = lines[i].matches("( {4}| {8})\\S.*\\(.*") && !lines[i].endsWith(";");
            for (int k = i + 1; begins && k < lines.length; k++) {
                if (lines[k].equals(indent + "}")) {
                    Check.due("the method at line " + (i + 1) + " is longer than " + MOST_LINES, k - i >= MOST_LINES, false);
                    break;
                }
            }
        }
    }

    private static int lineOf(String text, int at) {
        return (int) text.substring(0, at).chars().filter(sign -> sign == '\n').count() + 1;
    }

    private static int indentOf(String text, int at) {
        int begin = text.lastIndexOf('\n', at) + 1;
        int indent = 0;
        while (text.charAt(begin + indent) == ' ') {
            indent++;
        }
        return indent;
    }
}
