import java.lang.reflect.InvocationTargetException;
import java.lang.reflect.Method;
import java.util.ArrayList;
import java.util.Comparator;
import java.util.List;
import java.util.regex.Matcher;
import java.util.regex.Pattern;

/**
 * What the tests of the boundaries share: running all tests of a class, making
 * grids, and holding a grid on which a call was made against a twin without it.
 */
final class Cases {
    static final String BOUNDS = "throws.IndexOutOfBoundsException";
    static final String ARGUMENT = "throws.IllegalArgumentException";
    static final String STATE = "throws.IllegalStateException";
    static final int LEAST = Integer.MIN_VALUE;
    static final int GREATEST = Integer.MAX_VALUE;
    static final int[] NO_ITEMS = {-1, 12, LEAST, GREATEST};
    static final int[] NO_PLACES = {-1, 4, LEAST, GREATEST};
    static final String ALL_FIXED = "A<B;B<C;C<D;A=E;B=F;C=G;D=H;A=I;B=J;C=K;D=L";

    private static final Pattern NAME = Pattern.compile("promise(\\d+)[A-Z]\\w*");
    private static final int MOST_SAVED = 6;

    interface Call {
        long on(ClueGrid grid);
    }

    interface Build {
        void on(ClueGrid grid);
    }

    private Cases() {
    }

    // ---- running

    static void runAll(Class<?> tests) {
        List<Method> all = testsOf(tests);
        System.out.println(tests.getSimpleName() + ": " + all.size() + " tests");
        Check.due("there are tests in " + tests.getSimpleName(), all.isEmpty(), false);
        for (Method test : all) {
            Check.about(tests.getSimpleName() + "." + test.getName());
            try {
                test.invoke(null);
            } catch (InvocationTargetException e) {
                Check.fail("a call threw " + e.getCause());
            } catch (IllegalAccessException e) {
                Check.fail("the test can not be run");
            }
        }
        Check.end(tests.getSimpleName());
    }

    static List<Method> testsOf(Class<?> tests) {
        List<Method> found = new ArrayList<>();
        for (Method method : tests.getDeclaredMethods()) {
            boolean isNamed = NAME.matcher(method.getName()).matches();
            Check.due(method.getName() + " is a test's name just if it is a test", isNamed, method.isAnnotationPresent(Says.class));
            if (isNamed) {
                found.add(method);
            }
        }
        found.sort(Comparator.comparing(Cases::promiseOf).thenComparing(Method::getName));
        return found;
    }

    static int promiseOf(Method test) {
        Matcher name = NAME.matcher(test.getName());
        return name.matches() ? Integer.parseInt(name.group(1)) : 0;
    }

    // ---- making grids

    static ClueGrid made(Build build) {
        ClueGrid grid = new ClueGrid();
        build.on(grid);
        return grid;
    }

    /** Takes each text, which has to be done whole. */
    static ClueGrid grid(String... texts) {
        ClueGrid grid = new ClueGrid();
        for (String text : texts) {
            write(grid, text);
            Check.due("parts taken of " + text, grid.take(), text.split(";", -1).length);
        }
        return grid;
    }

    static void write(ClueGrid grid, String text) {
        for (int i = 0; i < text.length(); i++) {
            grid.append(text.charAt(i));
        }
    }

    static void nothing(ClueGrid grid) {
        Check.due("clues() of a new grid", grid.clues(), 0);
    }

    /** Six saved states that are unlike, a snapshot that is none of them, half a text in the buffer. */
    static void busy(ClueGrid grid) {
        grid.same(0, 4);
        grid.cross(11, 3);
        grid.leftOf(5, 10);
        grid.cross(0, 0);
        grid.keep();
        grid.rubOut(11, 3);
        grid.either(1, 6, 9);
        grid.withdraw(0);
        grid.notAt(2, 2);
        grid.cross(7, 1);
        grid.nextTo(9, 3);
        write(grid, "A=B;x");
    }

    /** Twelve clues that are unlike, and the rest as busy as that. */
    static void full(ClueGrid grid) {
        busy(grid);
        for (int i = 0; grid.clues() < 12; i++) {
            grid.apart(i, (i + 4) % 12);
        }
    }

    /** One clue less than there may be. */
    static void nearlyFull(ClueGrid grid) {
        full(grid);
        grid.withdraw(0);
    }

    // ---- twins

    /** The call throws just this, and leaves the buffer, the state, the saved states and the snapshot. */
    static void refused(Build build, String call, Call run, String due) {
        ClueGrid grid = made(build);
        Check.due(call, Check.outcome(() -> run.on(grid)), due);
        Check.due("all there is after " + call, Told.whole(grid), Told.whole(made(build)));
    }

    /** The call is done, and leaves the buffer, the state, the saved states and the snapshot. */
    static void changesNothing(String call, Call run) {
        changesNothing(Cases::nothing, call, run);
        changesNothing(Cases::busy, call, run);
        changesNothing(Cases::full, call, run);
    }

    static void changesNothing(Build build, String call, Call run) {
        ClueGrid grid = made(build);
        run.on(grid);
        Check.due("all there is after " + call, Told.whole(grid), Told.whole(made(build)));
    }

    /** The call leaves the state, and saves none. */
    static void savesNothing(Build build, String call, Call run) {
        ClueGrid grid = made(build);
        ClueGrid twin = made(build);
        run.on(grid);
        Check.due("the state after " + call, Told.state(grid), Told.state(twin));
        Check.due("saved states after " + call, Told.savedStates(grid).toString(), Told.savedStates(twin).toString());
    }

    /** The call saves the state from before it, once, for none up to six saved states. */
    static void undoable(Build base, String call, Call run) {
        for (int more = 0; more <= MOST_SAVED + 1; more++) {
            int pads = more;
            undoableOnce(grid -> {
                base.on(grid);
                pad(grid, pads);
            }, call, run);
        }
    }

    /** Changes that are undone by the next but leave a trace, as one more cross is made. */
    private static void pad(ClueGrid grid, int pads) {
        for (int i = 0; i < pads; i++) {
            if (grid.isCrossed(6, 3)) {
                grid.rubOut(6, 3);
            } else {
                grid.cross(6, 3);
            }
        }
    }

    private static void undoableOnce(Build build, String call, Call run) {
        ClueGrid twin = made(build);
        List<String> due = new ArrayList<>();
        due.add(Told.state(twin));
        due.addAll(Told.savedStates(twin));
        boolean isFull = due.size() > MOST_SAVED;
        if (isFull) {
            due.remove(MOST_SAVED);
        }
        ClueGrid grid = made(build);
        run.on(grid);
        Check.due("saved states after " + call, Told.savedStates(grid).toString(), due.toString());
        if (!isFull) {
            undoneWhole(build, call, run);
        }
    }

    /** The buffer apart, which is not restored. */
    private static void undoneWhole(Build build, String call, Call run) {
        ClueGrid grid = made(build);
        ClueGrid twin = made(build);
        run.on(grid);
        grid.undo();
        grid.clearBuffer();
        twin.clearBuffer();
        Check.due("all there is after " + call + " and undo()", Told.whole(grid), Told.whole(twin));
    }
}
