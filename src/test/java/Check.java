/** What the tests share: a count of named tests, and of the answers in them that are not as due. */
final class Check {
    interface Call { long answer(); }
    interface Asked { boolean answer(); }
    interface Body { void run(); }

    private static int passed = 0;
    private static int failed = 0;
    private static int wrong = 0;

    private Check() { }

    static void test(String name, Body body) {
        wrong = 0;
        try {
            body.run();
        } catch (RuntimeException e) {
            wrong++;
            System.out.println("  threw " + e);
        }
        if (wrong == 0) {
            passed++;
        } else {
            failed++;
            System.out.println("FAILED: " + name);
        }
    }

    static void due(String what, long got, long want) {
        if (got != want) {
            wrong("" + what + " answered " + got + ", due is " + want);
        }
    }

    static void due(String what, boolean got, boolean want) {
        due(what, got ? 1 : 0, want ? 1 : 0);
    }

    static void wrong(String what) {
        wrong++;
        System.out.println("  " + what);
    }

    static void index(String what, Call call) {
        needs(what, IndexOutOfBoundsException.class, call);
    }

    static void argument(String what, Call call) {
        needs(what, IllegalArgumentException.class, call);
    }

    static void state(String what, Call call) {
        needs(what, IllegalStateException.class, call);
    }

    static void indexAsked(String what, Asked call) {
        index(what, () -> call.answer() ? 1 : 0);
    }

    /** The class must be the very one, and thrown by LightcurveHouse, neither by the machine nor by the library. */
    private static void needs(String what, Class<?> due, Call call) {
        try {
            long got = call.answer();
            wrong(what + " answered " + got + ", due is " + due.getSimpleName());
        } catch (RuntimeException e) {
            if (e.getClass() != due || !isThrownByHouse(e)) {
                wrong(what + " threw " + e + ", due is " + due.getSimpleName());
            }
        }
    }

    /** Of exceptions whose class is the due one: what an ArrayList throws bears the same class as what is due. */
    static boolean isThrownByHouse(Throwable e) {
        StackTraceElement[] trace = e.getStackTrace();
        return trace.length > 0 && trace[0].getClassName().startsWith("LightcurveHouse");
    }

    /** Values just outside of a range, and far outside. */
    static int[] outside(int least, int most) {
        return new int[] {least - 1, most + 1, Integer.MIN_VALUE, Integer.MAX_VALUE};
    }

    /** Says how it ended; the exit code is 1 if a test failed. */
    static void end() {
        System.out.println(passed + " passed, " + failed + " failed");
        System.exit(failed == 0 && passed > 0 ? 0 : 1);
    }
}
