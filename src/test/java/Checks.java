/** Counts and prints the calls whose answers are not those that are due. */
final class Checks {
    private static final int PRINTED = 40;
    private static int made;
    private static int wrong;
    private static String about = "";

    private Checks() {
    }

    /** A call whose exception is due. */
    interface Call {
        void run();
    }

    /** The words of the document that the checks behind this stand for. */
    static void about(String words) {
        about = "[" + words + "] ";
    }

    static void same(String call, long got, long due) {
        made++;
        if (got != due) {
            fault(call + " answered " + got + ", due is " + due);
        }
    }

    static void that(String what, boolean holds) {
        made++;
        if (!holds) {
            fault("does not hold: " + what);
        }
    }

    static void sameText(String call, String got, String due) {
        made++;
        if (!got.equals(due)) {
            fault(call + " answered " + got + ", due is " + due);
        }
    }

    static void badArgument(String what, Call call) {
        throwsDue(what, call, IllegalArgumentException.class);
    }

    static void badState(String what, Call call) {
        throwsDue(what, call, IllegalStateException.class);
    }

    private static void throwsDue(String what, Call call, Class<?> due) {
        made++;
        try {
            call.run();
        } catch (RuntimeException thrown) {
            if (thrown.getClass() != due) {
                fault(what + " throws " + thrown.getClass().getName() + ", due is " + due.getName());
            }
            return;
        }
        fault(what + " throws nothing, due is " + due.getName());
    }

    private static void fault(String text) {
        wrong++;
        if (wrong <= PRINTED) {
            System.out.println(about + text);
        }
    }

    static void end() {
        System.out.println(made + " checks, " + wrong + " wrong");
        if (wrong > 0) {
            System.exit(1);
        }
    }
}
