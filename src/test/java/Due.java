import java.util.Objects;

/** Counts the answers that are not the ones that are due, and prints them. */
final class Due {
    private static final int MOST_PRINTED = 40;
    private static int wrong = 0;
    private static int looked = 0;

    private Due() {
    }

    interface Call {
        Object answer();
    }

    /** The answer of a call, or throws. and the name of the exception that it throws. */
    static Object answerOf(Call call) {
        try {
            return call.answer();
        } catch (RuntimeException e) {
            return "throws." + e.getClass().getSimpleName();
        }
    }

    static void is(String what, Object want, Call call) {
        looked++;
        Object got = answerOf(call);
        if (!Objects.equals(got, want)) {
            wrong++;
            if (wrong <= MOST_PRINTED) {
                System.out.println(what + " answered " + got + ", due is " + want);
            }
        }
    }

    static void end(String test) {
        System.out.println(test + ": " + looked + " answers looked at, " + wrong + " not as due");
        if (wrong != 0) {
            System.exit(1);
        }
    }
}
