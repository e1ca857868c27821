package support;

/** Counts the answers that are not the ones due, and prints each of them. */
public final class Answers {
    public static final Class<?> INDEX = IndexOutOfBoundsException.class;
    public static final Class<?> ARGUMENT = IllegalArgumentException.class;

    private static int wrong = 0;
    private static String heading = "";

    public interface Call {
        void run();
    }

    private Answers() {
    }

    public static void under(String newHeading) {
        heading = newHeading;
    }

    public static void is(String what, long got, long due) {
        if (got != due) {
            complain(what + " answered " + got + ", due is " + due);
        }
    }

    public static void is(String what, boolean got, boolean due) {
        if (got != due) {
            complain(what + " answered " + got + ", due is " + due);
        }
    }

    // The very class counts: the machine's own exceptions stand below the document's ones.
    public static void fails(String what, Class<?> due, Call call) {
        Class<?> got = null;
        try {
            call.run();
        } catch (RuntimeException e) {
            got = e.getClass();
        }
        if (got != due) {
            complain(what + " threw " + got + ", due is " + due);
        }
    }

    public static void complain(String text) {
        wrong++;
        System.out.println(heading + ": " + text);
    }

    public static void end(String whenAllHold) {
        System.out.println(wrong == 0 ? whenAllHold : wrong + " answers are not as due");
        if (wrong != 0) {
            System.exit(1);
        }
    }
}
