/** Compares answers with those that are due, and ends a test's program with exit code 1 if one was wrong. */
final class Check {
    static final String INDEX = "IndexOutOfBoundsException";
    static final String ARGUMENT = "IllegalArgumentException";
    static final String STATE = "IllegalStateException";

    private static int made = 0;
    private static int wrong = 0;

    private Check() {
    }

    static void due(String what, Object got, Object want) {
        made++;
        if (!got.equals(want)) {
            wrong++;
            System.out.println(what + ": answered " + got + ", due is " + want);
        }
    }

    static void noSuchIndex(String what, Runnable call) {
        due(what, nameOfThrown(call), INDEX);
    }

    static void badArgument(String what, Runnable call) {
        due(what, nameOfThrown(call), ARGUMENT);
    }

    static void badState(String what, Runnable call) {
        due(what, nameOfThrown(call), STATE);
    }

    private static String nameOfThrown(Runnable call) {
        try {
            call.run();
            return "nothing thrown";
        } catch (RuntimeException e) {
            return nameOf(e);
        }
    }

    /**
     * Tells an exception apart that the program did not throw itself: what the machine throws is of another class
     * than the document names, and what the library throws has the library's method on top of its trace.
     */
    static String nameOf(RuntimeException thrown) {
        StackTraceElement[] trace = thrown.getStackTrace();
        boolean byTheProgram = trace.length > 0 && trace[0].getClassName().startsWith("Voxelmint");
        return byTheProgram ? thrown.getClass().getSimpleName() : "not thrown by the program: " + thrown;
    }

    static void end(String test) {
        System.out.println(test + ": " + made + " checks, " + wrong + " wrong");
        if (made == 0 || wrong > 0) {
            System.exit(1);
        }
    }
}
