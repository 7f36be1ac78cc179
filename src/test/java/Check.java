/** Counts what was checked, and prints each answer that is not due. */
final class Check {
    interface Call {
        long run();
    }

    private static int checked = 0;
    private static int wrong = 0;

    private Check() {
    }

    static void same(String what, long got, long due) {
        checked++;
        if (got != due) {
            wrong++;
            System.out.println(what + " answered " + got + ", due is " + due);
        }
    }

    static void holds(String what, boolean got) {
        checked++;
        if (!got) {
            wrong++;
            System.out.println(what + " does not hold");
        }
    }

    static void index(String what, Call call) {
        refuses(what, call, IndexOutOfBoundsException.class);
    }

    static void argument(String what, Call call) {
        refuses(what, call, IllegalArgumentException.class);
    }

    static void state(String what, Call call) {
        refuses(what, call, IllegalStateException.class);
    }

    /** The machine and the library throw too; the program may not let them. */
    static boolean isThrownByTheProgram(RuntimeException e) {
        StackTraceElement[] trace = e.getStackTrace();
        return trace.length > 0 && trace[0].getClassName().startsWith("Amendmark");
    }

    private static void refuses(String what, Call call, Class<?> due) {
        checked++;
        Object got = null;
        try {
            call.run();
        } catch (RuntimeException e) {
            got = isThrownByTheProgram(e) ? e.getClass() : e;
        }
        if (got != due) {
            wrong++;
            System.out.println(what + " threw " + got + ", due is " + due);
        }
    }

    static void end() {
        System.out.println(checked + " checks, " + wrong + " wrong");
        if (wrong != 0) {
            System.exit(1);
        }
    }
}
