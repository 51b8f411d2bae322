import java.util.Objects;

/** Counts what is as due and prints what is not. */
final class Check {
    private static int passed = 0;
    private static int failed = 0;

    private Check() {
    }

    static void same(String what, Object got, Object due) {
        if (Objects.equals(got, due)) {
            passed++;
        } else {
            failed++;
            System.out.println(what + " answered " + got + ", due is " + due);
        }
    }

    static void holds(String what, boolean isSo) {
        same(what, isSo, true);
    }

    /** The class must be this very one: the machine's own exceptions are of classes below it. */
    static void refuses(String what, Class<? extends RuntimeException> due, Runnable call) {
        Object got = "nothing thrown";
        try {
            call.run();
        } catch (RuntimeException e) {
            got = thrown(e);
        }
        same(what, got, due);
    }

    /** The exception's class, or a text if it was not the program itself that threw it. */
    static Object thrown(Throwable e) {
        StackTraceElement[] trace = e.getStackTrace();
        boolean isOwn = trace.length > 0 && trace[0].getClassName().startsWith("PersistentParlour");
        return isOwn ? e.getClass() : "the machine's or the library's " + e.getClass();
    }

    static void finish() {
        System.out.println(passed + " checks as due, " + failed + " not");
        if (failed != 0 || passed == 0) {
            System.exit(1);
        }
    }
}
