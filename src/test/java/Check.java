/** What the tests share: they count what is due and what is not, and end with 1 if something was not. */
final class Check {
    interface Call {
        void run();
    }

    static final Class<?> INDEX = IndexOutOfBoundsException.class;
    static final Class<?> ARGUMENT = IllegalArgumentException.class;
    static final Class<?> STATE = IllegalStateException.class;

    private static int passed = 0;
    private static int failed = 0;

    private Check() {
    }

    static void due(String what, long got, long want) {
        if (got == want) passed++;
        else fail(what + " answered " + got + ", due is " + want);
    }

    static void due(String what, boolean got, boolean want) {
        due(what, got ? 1 : 0, want ? 1 : 0);
    }

    static void refused(String what, Class<?> kind, Call call) {
        Class<?> got = null;
        try {
            call.run();
        } catch (RuntimeException e) {
            got = e.getClass();
        }
        if (got == kind) passed++;
        else fail(what + " threw " + got + ", due is " + kind);
    }

    static void fail(String what) {
        failed++;
        System.out.println("WRONG: " + what);
    }

    /** Says what came out, and ends with 1 if something failed. */
    static void end(String name) {
        System.out.println(name + ": " + passed + " as due, " + failed + " wrong");
        if (failed > 0 || passed == 0) System.exit(1);
    }
}
