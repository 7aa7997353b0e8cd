import java.util.NoSuchElementException;

/** Counts the answers that are not as due; a test ends by calling 'end'. */
final class Check {
    interface Call {
        Object answer();
    }

    static final Class<?> BOUNDS = IndexOutOfBoundsException.class;
    static final Class<?> ARGUMENT = IllegalArgumentException.class;
    static final Class<?> STATE = IllegalStateException.class;
    static final Class<?> UNSUPPORTED = UnsupportedOperationException.class;
    static final Class<?> MISSING = NoSuchElementException.class;
    static final Class<?> ARITHMETIC = ArithmeticException.class;

    private static int checked = 0;
    private static int wrong = 0;

    private Check() {
    }

    static void due(String what, Object got, Object want) {
        checked++;
        if (!want.equals(got)) {
            wrong++;
            System.out.println(what + ": answered " + got + ", due is " + want);
        }
    }

    static void thrown(String what, Class<?> want, Call call) {
        due(what, outcome(call), want.getName());
    }

    /** The answer, or the name of the very class of what was thrown. */
    static Object outcome(Call call) {
        try {
            return call.answer();
        } catch (RuntimeException e) {
            return e.getClass().getName() + (isThrownByTheClass(e) ? "" : ", but by the machine or the library");
        }
    }

    /** A list that is asked for what it does not hold throws the right class, but not by a throw of ours. */
    static boolean isThrownByTheClass(Throwable e) {
        StackTraceElement[] trace = e.getStackTrace();
        return trace.length > 0 && trace[0].getClassName().equals("Watermarkmill");
    }

    static void end() {
        if (checked == 0) {
            System.out.println("nothing was checked");
            System.exit(1);
        }
        System.out.println(checked + " checks, " + wrong + " wrong");
        if (wrong != 0) {
            System.exit(1);
        }
    }
}
