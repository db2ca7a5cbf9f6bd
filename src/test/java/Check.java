/** Counts the answers that are not as due, and ends a test with them. */
final class Check {
    static final Class<?> ARGUMENT = IllegalArgumentException.class;
    static final Class<?> STATE = IllegalStateException.class;
    static final Class<?> INDEX = IndexOutOfBoundsException.class;

    private static int wrong = 0;
    private static String sentence = "";

    private Check() {
    }

    /** Begins the test of one sentence of the document: what is wrong from here on is told with it. */
    static void sentence(String promise, String words) {
        sentence = promise + " (" + words + "): ";
    }

    static void same(String what, long got, long due) {
        if (got != due) {
            report(what + " answered " + got + ", due is " + due);
        }
    }

    static void holds(String what, boolean held) {
        if (!held) {
            report(what + " does not hold");
        }
    }

    /** The very class is asked for: the machine's own exceptions are often classes below it. */
    static void refuses(String what, Class<?> due, Runnable call) {
        Class<?> thrown = thrownBy(call);
        if (thrown != due) {
            report(what + " threw " + thrown + ", due is " + due);
        }
    }

    static Class<?> thrownBy(Runnable call) {
        try {
            call.run();
        } catch (RuntimeException thrown) {
            ownThrow(thrown);
            return thrown.getClass();
        }
        return null;
    }

    /** A list's own exception has the class that is due, but the class must look before it asks. */
    private static void ownThrow(RuntimeException thrown) {
        StackTraceElement[] trace = thrown.getStackTrace();
        boolean own = trace.length > 0 && trace[0].getClassName().startsWith("LeftThings");
        holds("a throw statement of the class behind " + thrown, own);
    }

    static void report(String line) {
        wrong++;
        System.out.println(sentence + line);
    }

    static void finish() {
        if (wrong > 0) {
            System.out.println(wrong + " answers are not as due");
            System.exit(1);
        }
    }
}
