import java.io.IOException;
import java.lang.reflect.Constructor;
import java.lang.reflect.Field;
import java.lang.reflect.Method;
import java.lang.reflect.Modifier;
import java.nio.file.Files;
import java.nio.file.Path;
import java.util.List;
import java.util.TreeSet;

/**
 * The class has the document's face, and no other member that can be seen from
 * outside. The first argument names the class's source.
 */
final class FaceTest {
    private static final String BOUNDS = " IndexOutOfBoundsException";
    private static final String ARGUMENT = " IllegalArgumentException";
    private static final String STATE = " IllegalStateException";
    private static final String[] FACE = {
        "int same(int,int)" + BOUNDS + ARGUMENT + STATE,
        "int apart(int,int)" + BOUNDS + ARGUMENT + STATE,
        "int leftOf(int,int)" + BOUNDS + ARGUMENT + STATE,
        "int nextTo(int,int)" + BOUNDS + ARGUMENT + STATE,
        "int at(int,int)" + BOUNDS + STATE,
        "int notAt(int,int)" + BOUNDS + STATE,
        "int either(int,int,int)" + BOUNDS + ARGUMENT + STATE,
        "int withdraw(int)" + BOUNDS,
        "int cross(int,int)" + BOUNDS + STATE,
        "int rubOut(int,int)" + BOUNDS + STATE,
        "int rubAllOut()",
        "int settle()" + STATE,
        "int append(int)" + ARGUMENT + STATE,
        "int clearBuffer()",
        "int firstError()",
        "int take()" + ARGUMENT,
        "int keep()",
        "int goBack()" + STATE,
        "int undo()" + STATE,
        "int clues()",
        "int sortOf(int)" + BOUNDS,
        "int itemOf(int,int)" + BOUNDS,
        "int placeOf(int)" + BOUNDS,
        "boolean isCrossed(int,int)" + BOUNDS,
        "int crosses()",
        "int crossesByAccount()",
        "int made()",
        "int left(int)" + BOUNDS,
        "int leftByTurns(int)" + BOUNDS,
        "int rounds()",
        "boolean isContradiction()",
        "int fixedAt(int)" + BOUNDS,
        "int fixedItems()",
        "int hint()",
        "int hintBy()",
        "int solutions()",
        "int solutionsBySearch()",
        "int placeIn(int,int)" + BOUNDS,
        "int trulyLeft(int)" + BOUNDS,
        "boolean isSpare(int)" + BOUNDS,
        "int culprit()",
        "int barredBy(int)" + BOUNDS,
        "boolean isPlain()",
        "double fixedShare()",
        "float meanLeft()",
        "long digest()",
    };

    public static void main(String[] args) throws IOException {
        Check.about("the face");
        Class<?> type = ClueGrid.class;
        Check.due("modifiers of the class", type.getModifiers(), Modifier.PUBLIC | Modifier.FINAL);
        methods(type);
        constructors(type);
        fields(type);
        numbers(type);
        classesInside(type);
        if (Document.isThere()) {
            String path = args.length > 0 ? args[0] : "src/main/java/ClueGrid.java";
            String source = Files.readString(Path.of(path)).replaceAll("\\s+", " ");
            face(Document.read(), source);
            groups(Document.read(), source);
        } else {
            System.out.println("FaceTest: there is no " + Document.path() + ", so the source is not held against it");
        }
        Check.end("FaceTest");
    }

    /** The document's lines, in their order, with the names of the parameters; each promise tells its own once more. */
    private static void face(Document document, String source) {
        List<String> lines = document.face();
        Check.due("the constant of DOC.md", lines.remove(0), "static final int NONE = -1");
        Check.due("lines of the face", lines.size(), Document.PROMISES);
        int at = -1;
        for (int i = 0; i < lines.size(); i++) {
            int next = source.indexOf(" public " + lines.get(i) + " {");
            Check.due("the source has, behind the one before: " + lines.get(i), next > at, true);
            Check.due("the promise " + (i + 1), document.signature(i + 1), lines.get(i));
            at = next;
        }
        for (int i = 0; i < FACE.length; i++) {
            Check.due("the line of DOC.md", withoutNames(lines.get(i + 1)), FACE[i]);
        }
    }

    /** As told() tells a method. */
    private static String withoutNames(String line) {
        int end = line.indexOf(')') + 1;
        String call = line.substring(0, end).replaceAll(" \\w+([,)])", "$1").replace(", ", ",");
        return call + line.substring(end).replace(" throws", "").replace(",", "");
    }

    /** "Ahead of the calls .. the interface says: ---- clues." stands as a comment ahead of the first of the calls. */
    private static void groups(Document document, String source) {
        int count = 0;
        for (String line : document.section(Document.TERMS).split("\n")) {
            if (line.startsWith("Ahead of the calls ")) {
                String[] calls = line.substring("Ahead of the calls ".length(), line.indexOf(" the interface says: ")).split(", ");
                String says = line.substring(line.indexOf("---- "), line.length() - 1);
                int at = source.indexOf("// " + says + " public ");
                Check.due("the source says ahead of " + calls[0] + ": " + says, at >= 0, true);
                int end = source.indexOf("// ---- ", at + 1);
                for (String call : calls) {
                    int next = source.indexOf(" " + call + "(", Math.max(at, 0));
                    Check.due("then comes " + call, next > at && next < end, true);
                    at = next;
                    count++;
                }
            }
        }
        Check.due("calls that are ahead of or behind a heading", count, Document.PROMISES - 1);
    }

    /** All numbers are whole numbers, but for two shares. */
    private static void numbers(Class<?> type) {
        for (Method method : type.getMethods()) {
            if (method.getDeclaringClass() == type) {
                String returned = method.getReturnType().getName();
                boolean isShare = method.getName().equals("fixedShare") || method.getName().equals("meanLeft");
                Check.due(method.getName() + " answers a share", returned.equals("double") || returned.equals("float"), isShare);
                for (Class<?> parameter : method.getParameterTypes()) {
                    Check.due(method.getName() + " is asked by", parameter.getName(), "int");
                }
            }
        }
    }

    private static void methods(Class<?> type) {
        TreeSet<String> due = new TreeSet<>();
        TreeSet<String> names = new TreeSet<>();
        for (String each : FACE) {
            due.add(each);
            names.add(each.substring(each.indexOf(' ') + 1, each.indexOf('(')));
        }
        TreeSet<String> found = new TreeSet<>();
        for (Method method : type.getDeclaredMethods()) {
            if (Modifier.isPrivate(method.getModifiers())) {
                Check.due("a private method with a public name, " + method.getName(), names.contains(method.getName()), false);
            } else {
                Check.due("modifiers of " + method.getName(), method.getModifiers(), Modifier.PUBLIC);
                found.add(told(method));
            }
        }
        Check.due("methods", found.toString(), due.toString());
    }

    private static String told(Method method) {
        StringBuilder text = new StringBuilder(method.getReturnType().getName()).append(' ').append(method.getName()).append('(');
        for (int i = 0; i < method.getParameterCount(); i++) {
            text.append(i > 0 ? "," : "").append(method.getParameterTypes()[i].getName());
        }
        text.append(')');
        for (Class<?> each : method.getExceptionTypes()) {
            text.append(' ').append(each.getSimpleName());
        }
        return text.toString();
    }

    private static void constructors(Class<?> type) {
        Constructor<?>[] found = type.getDeclaredConstructors();
        Check.due("constructors", found.length, 1);
        Check.due("modifiers of the constructor", found[0].getModifiers(), Modifier.PUBLIC);
        Check.due("parameters of the constructor", found[0].getParameterCount(), 0);
        Check.due("exceptions of the constructor", found[0].getExceptionTypes().length, 0);
    }

    private static void fields(Class<?> type) {
        TreeSet<String> found = new TreeSet<>();
        int changing = 0;
        for (Field field : type.getDeclaredFields()) {
            if (!Modifier.isPrivate(field.getModifiers())) {
                found.add(Modifier.toString(field.getModifiers()) + " " + field.getType().getName() + " " + field.getName());
            }
            if (!Modifier.isStatic(field.getModifiers())) {
                changing++;
            } else {
                Check.due(field.getName() + " is final", Modifier.isFinal(field.getModifiers()), true);
            }
        }
        Check.due("fields", found.toString(), "[public static final int NONE]");
        Check.due("NONE", ClueGrid.NONE, -1);
        Check.due("at most twenty fields, which " + changing + " are", changing <= 20, true);
    }

    private static void classesInside(Class<?> type) {
        Class<?>[] inside = type.getDeclaredClasses();
        Check.due("at most eleven classes inside, which " + inside.length + " are", inside.length <= 11, true);
        for (Class<?> each : inside) {
            int modifiers = each.getModifiers();
            Check.due(each.getName() + " is static", Modifier.isStatic(modifiers), true);
            Check.due(each.getName() + " is public", Modifier.isPublic(modifiers) || Modifier.isProtected(modifiers), false);
        }
    }
}
