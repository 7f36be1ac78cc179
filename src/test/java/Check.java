/** Counts what was checked, and prints each answer that is not due. */
final class Check {
    interface Call {
        long run();
    }

    interface Of {
        long run(int value);
    }

    private static int checked = 0;
    private static int wrong = 0;
    /** The words of the document that the present test is about. */
    private static String about = "";

    private Check() {
    }

    static void about(String words) {
        about = words;
    }

    static void same(String what, long got, long due) {
        checked++;
        if (got != due) {
            fail(what + " answered " + got + ", due is " + due);
        }
    }

    static void holds(String what, boolean got) {
        checked++;
        if (!got) {
            fail(what + " does not hold");
        }
    }

    /** Each call on an object of its own: both ends of a range are taken, what is beyond them is refused. */
    static void range(String what, int least, int largest, Class<?> due, Of call) {
        for (int fits : new int[] {least, largest}) {
            refuses(what + " " + fits, () -> call.run(fits), null);
        }
        for (int wrong : new int[] {least - 1, largest + 1, Integer.MIN_VALUE, Integer.MAX_VALUE}) {
            refuses(what + " " + wrong, () -> call.run(wrong), due);
        }
    }

    private static void fail(String what) {
        wrong++;
        System.out.println((about.isEmpty() ? "" : "'" + about + "': ") + what);
    }

    static void index(String what, Call call) {
        refuses(what, call, IndexOutOfBoundsException.class);
    }

    static void argument(String what, Call call) {
        refuses(what, call, IllegalArgumentException.class);
    }

    static void state(String what, Call call) {
        refuses(what, call, IllegalStateException.class);
    }

    /** The machine and the library throw too; the program may not let them. */
    static boolean isThrownByTheProgram(RuntimeException e) {
        StackTraceElement[] trace = e.getStackTrace();
        return trace.length > 0 && trace[0].getClassName().startsWith("Amendmark");
    }

    /** What a call throws; nothing, if due is null. */
    static void refuses(String what, Call call, Class<?> due) {
        checked++;
        Object got = null;
        try {
            call.run();
        } catch (RuntimeException e) {
            got = isThrownByTheProgram(e) ? e.getClass() : e;
        }
        if (got != due) {
            fail(what + " threw " + got + ", due is " + due);
        }
    }

    static void end() {
        System.out.println(checked + " checks, " + wrong + " wrong");
        if (wrong != 0) {
            System.exit(1);
        }
    }
}
