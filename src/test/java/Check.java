/** Counts and prints the answers that are not due; every test of the project ends with {@link #end}. */
final class Check {
    static final Class<? extends RuntimeException> INDEX = IndexOutOfBoundsException.class;
    static final Class<? extends RuntimeException> ARGUMENT = IllegalArgumentException.class;
    static final Class<? extends RuntimeException> STATE = IllegalStateException.class;

    private static int checks = 0;
    private static int wrong = 0;

    private Check() {
    }

    static void equal(String what, long due, long answer) {
        checks++;
        if (due != answer) {
            tell(what + " answered " + answer + ", due is " + due);
        }
    }

    static void yes(String what, boolean answer) {
        equal(what, 1, answer ? 1 : 0);
    }

    static void no(String what, boolean answer) {
        equal(what, 0, answer ? 1 : 0);
    }

    /** The call must be answered, whatever with. */
    static void taken(String what, Runnable call) {
        checks++;
        try {
            call.run();
        } catch (RuntimeException e) {
            tell(what + " threw " + e.getClass().getName() + ", due is an answer");
        }
    }

    /** The exception must be of the very class, and not one that the machine throws on an array. */
    static void fails(String what, Class<? extends RuntimeException> due, Runnable call) {
        checks++;
        try {
            call.run();
        } catch (RuntimeException e) {
            if (e.getClass() != due) {
                tell(what + " threw " + e.getClass().getName() + ", due is " + due.getName());
            }
            return;
        }
        tell(what + " threw nothing, due is " + due.getName());
    }

    static void tell(String fault) {
        wrong++;
        if (wrong <= 50) {
            System.out.println(fault);
        }
    }

    static void end() {
        System.out.println(checks + " checks, " + wrong + " wrong");
        if (wrong != 0) {
            System.exit(1);
        }
    }
}
