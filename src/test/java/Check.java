import java.util.function.BooleanSupplier;
import java.util.function.LongSupplier;

/** What the tests share: counting wrong answers, and ending with exit code 1 if there was one. */
final class Check {
    private static int wrong = 0;
    private static String about = "";

    private Check() {
    }

    static void about(String what) {
        about = what;
    }

    static void due(String call, long got, long want) {
        if (got != want) {
            fail(call + " answered " + got + ", due is " + want);
        }
    }

    static void due(String call, boolean got, boolean want) {
        due(call, got ? 1 : 0, want ? 1 : 0);
    }

    static void due(String call, double got, double want) {
        if (Double.doubleToLongBits(got) != Double.doubleToLongBits(want)) {
            fail(call + " answered " + got + ", due is " + want);
        }
    }

    static void due(String call, String got, String want) {
        if (!got.equals(want)) {
            fail(call + " answered " + got + ", due is " + want);
        }
    }

    static void outOfBounds(ClueGrid grid, String call, LongSupplier run) {
        throwsAndKeeps(grid, call, run, IndexOutOfBoundsException.class);
    }

    static void badArgument(ClueGrid grid, String call, LongSupplier run) {
        throwsAndKeeps(grid, call, run, IllegalArgumentException.class);
    }

    static void badState(ClueGrid grid, String call, LongSupplier run) {
        throwsAndKeeps(grid, call, run, IllegalStateException.class);
    }

    static LongSupplier flag(BooleanSupplier call) {
        return () -> call.getAsBoolean() ? 1 : 0;
    }

    /** The call has to throw just this, and to leave the whole state as it was. */
    private static void throwsAndKeeps(ClueGrid grid, String call, LongSupplier run, Class<?> due) {
        long before = grid.digest();
        due(call, outcome(run), "throws." + due.getSimpleName());
        due("digest after " + call, grid.digest(), before);
    }

    /** The answer of a call as a text, or the name of what it threw. */
    static String outcome(LongSupplier run) {
        try {
            return Long.toString(run.getAsLong());
        } catch (RuntimeException e) {
            return "throws." + e.getClass().getSimpleName();
        }
    }

    static void fail(String what) {
        wrong++;
        if (wrong <= 40) {
            System.out.println(about + ": " + what);
        }
    }

    static int wrongSoFar() {
        return wrong;
    }

    static void end(String test) {
        System.out.println(test + ": " + (wrong == 0 ? "all answers are as due" : wrong + " answers are not as due"));
        if (wrong != 0) {
            System.exit(1);
        }
    }
}
