import java.lang.reflect.Constructor;
import java.lang.reflect.Field;
import java.lang.reflect.Method;
import java.lang.reflect.Modifier;
import java.util.TreeSet;

/** The class has the document's face, and no other member that can be seen from outside. */
final class FaceTest {
    private static final String BOUNDS = " IndexOutOfBoundsException";
    private static final String ARGUMENT = " IllegalArgumentException";
    private static final String STATE = " IllegalStateException";
    private static final String[] FACE = {
        "int same(int,int)" + BOUNDS + ARGUMENT + STATE,
        "int apart(int,int)" + BOUNDS + ARGUMENT + STATE,
        "int leftOf(int,int)" + BOUNDS + ARGUMENT + STATE,
        "int nextTo(int,int)" + BOUNDS + ARGUMENT + STATE,
        "int at(int,int)" + BOUNDS + STATE,
        "int notAt(int,int)" + BOUNDS + STATE,
        "int either(int,int,int)" + BOUNDS + ARGUMENT + STATE,
        "int withdraw(int)" + BOUNDS,
        "int cross(int,int)" + BOUNDS + STATE,
        "int rubOut(int,int)" + BOUNDS + STATE,
        "int rubAllOut()",
        "int settle()" + STATE,
        "int append(int)" + ARGUMENT + STATE,
        "int clearBuffer()",
        "int firstError()",
        "int take()" + ARGUMENT,
        "int keep()",
        "int goBack()" + STATE,
        "int undo()" + STATE,
        "int clues()",
        "int sortOf(int)" + BOUNDS,
        "int itemOf(int,int)" + BOUNDS,
        "int placeOf(int)" + BOUNDS,
        "boolean isCrossed(int,int)" + BOUNDS,
        "int crosses()",
        "int crossesByAccount()",
        "int made()",
        "int left(int)" + BOUNDS,
        "int leftByTurns(int)" + BOUNDS,
        "int rounds()",
        "boolean isContradiction()",
        "int fixedAt(int)" + BOUNDS,
        "int fixedItems()",
        "int hint()",
        "int hintBy()",
        "int solutions()",
        "int solutionsBySearch()",
        "int placeIn(int,int)" + BOUNDS,
        "int trulyLeft(int)" + BOUNDS,
        "boolean isSpare(int)" + BOUNDS,
        "int culprit()",
        "int barredBy(int)" + BOUNDS,
        "boolean isPlain()",
        "double fixedShare()",
        "float meanLeft()",
        "long digest()",
    };

    public static void main(String[] args) {
        Check.about("the face");
        Class<?> type = ClueGrid.class;
        Check.due("modifiers of the class", type.getModifiers(), Modifier.PUBLIC | Modifier.FINAL);
        methods(type);
        constructors(type);
        fields(type);
        classesInside(type);
        Check.end("FaceTest");
    }

    private static void methods(Class<?> type) {
        TreeSet<String> due = new TreeSet<>();
        TreeSet<String> names = new TreeSet<>();
        for (String each : FACE) {
            due.add(each);
            names.add(each.substring(each.indexOf(' ') + 1, each.indexOf('(')));
        }
        TreeSet<String> found = new TreeSet<>();
        for (Method method : type.getDeclaredMethods()) {
            if (Modifier.isPrivate(method.getModifiers())) {
                Check.due("a private method with a public name, " + method.getName(), names.contains(method.getName()), false);
            } else {
                Check.due("modifiers of " + method.getName(), method.getModifiers(), Modifier.PUBLIC);
                found.add(told(method));
            }
        }
        Check.due("methods", found.toString(), due.toString());
    }

    private static String told(Method method) {
        StringBuilder text = new StringBuilder(method.getReturnType().getName()).append(' ').append(method.getName()).append('(');
        for (int i = 0; i < method.getParameterCount(); i++) {
            text.append(i > 0 ? "," : "").append(method.getParameterTypes()[i].getName());
        }
        text.append(')');
        for (Class<?> each : method.getExceptionTypes()) {
            text.append(' ').append(each.getSimpleName());
        }
        return text.toString();
    }

    private static void constructors(Class<?> type) {
        Constructor<?>[] found = type.getDeclaredConstructors();
        Check.due("constructors", found.length, 1);
        Check.due("modifiers of the constructor", found[0].getModifiers(), Modifier.PUBLIC);
        Check.due("parameters of the constructor", found[0].getParameterCount(), 0);
        Check.due("exceptions of the constructor", found[0].getExceptionTypes().length, 0);
    }

    private static void fields(Class<?> type) {
        TreeSet<String> found = new TreeSet<>();
        int changing = 0;
        for (Field field : type.getDeclaredFields()) {
            if (!Modifier.isPrivate(field.getModifiers())) {
                found.add(Modifier.toString(field.getModifiers()) + " " + field.getType().getName() + " " + field.getName());
            }
            if (!Modifier.isStatic(field.getModifiers())) {
                changing++;
            } else {
                Check.due(field.getName() + " is final", Modifier.isFinal(field.getModifiers()), true);
            }
        }
        Check.due("fields", found.toString(), "[public static final int NONE]");
        Check.due("NONE", ClueGrid.NONE, -1);
        Check.due("at most twenty fields, which " + changing + " are", changing <= 20, true);
    }

    private static void classesInside(Class<?> type) {
        Class<?>[] inside = type.getDeclaredClasses();
        Check.due("at most eleven classes inside, which " + inside.length + " are", inside.length <= 11, true);
        for (Class<?> each : inside) {
            int modifiers = each.getModifiers();
            Check.due(each.getName() + " is static", Modifier.isStatic(modifiers), true);
            Check.due(each.getName() + " is public", Modifier.isPublic(modifiers) || Modifier.isProtected(modifiers), false);
        }
    }
}
