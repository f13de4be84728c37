import java.util.Objects;

/** Compares what calls answer with what is due; each test class ends with end(). */
final class Check {
    private static int wrong = 0;
    private static int made = 0;

    interface Call {
        Object answer();
    }

    private Check() {
    }

    static void is(String what, Object due, Object got) {
        made++;
        if (!Objects.equals(due, got)) {
            wrong++;
            System.out.println(what + ": due is " + due + ", answered was " + got);
        }
    }

    /** The exception's very class is due, so that none of the Java machine's own passes for its parent. */
    static void refuses(String what, Class<? extends RuntimeException> due, Call call) {
        is(what, "throws " + due.getName(), outcome(call));
    }

    static Object outcome(Call call) {
        try {
            return call.answer();
        } catch (RuntimeException e) {
            return "throws " + e.getClass().getName();
        }
    }

    static void end() {
        System.out.println(made + " checks, " + wrong + " wrong");
        if (wrong != 0) {
            System.exit(1);
        }
    }
}
