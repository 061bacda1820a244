/** Counts what passed and what failed, and prints the latter. */
final class Check {
    static final String INDEX = "IndexOutOfBoundsException";
    static final String ARGUMENT = "IllegalArgumentException";
    static final String STATE = "IllegalStateException";

    static int passed = 0;
    static int failed = 0;

    private Check() {
    }

    interface Call {
        long answer();
    }

    interface Run {
        void on(CardPort x);
    }

    static void that(String name, boolean holds) {
        if (holds) {
            passed++;
        } else {
            failed++;
            System.out.println("FAILED " + name);
        }
    }

    static void same(String name, Object got, Object due) {
        that(name + ": answered " + got + ", due is " + due, got.equals(due));
    }

    static void answers(String name, long due, Call call) {
        same(name, said(call), String.valueOf(due));
    }

    static void throwing(String name, String exception, Call call) {
        same(name, said(call), exception);
    }

    /** The answer as a text, or the simple name of what was thrown: exactly that class, not one below it. */
    static String said(Call call) {
        try {
            return String.valueOf(call.answer());
        } catch (RuntimeException e) {
            String name = e.getClass().getSimpleName();
            return isThrownByTheClassItself(e) ? name : name + " of the machine or the library";
        }
    }

    /** A list's own IndexOutOfBoundsException would look like the due one, but for where it comes from. */
    private static boolean isThrownByTheClassItself(RuntimeException e) {
        StackTraceElement[] trace = e.getStackTrace();
        return trace.length > 0 && trace[0].getClassName().startsWith("CardPort");
    }

    /** Two objects with the same calls, one of them with the refused calls too: all that can be asked is alike. */
    static void changesNothing(String name, Run before, Run refused) {
        CardPort plain = new CardPort();
        before.on(plain);
        CardPort tried = new CardPort();
        before.on(tried);
        refused.on(tried);
        same(name + " changes nothing", Snapshot.of(tried), Snapshot.of(plain));
    }
}
