import java.util.function.Function;

/** Compares answers with those that are due, prints each that is not, and ends a test with its exit code. */
final class Due {
    static final String INDEX = "IndexOutOfBoundsException";
    static final String ARGUMENT = "IllegalArgumentException";
    static final String STATE = "IllegalStateException";

    private static int compared = 0;
    private static int wrong = 0;

    private Due() {
    }

    interface Call {
        Object run();
    }

    /** What a call answers, or the plain name of the exception that it throws. */
    static String answerOf(Call call) {
        try {
            return String.valueOf(call.run());
        } catch (RuntimeException e) {
            return e.getClass().getSimpleName();
        }
    }

    static void is(String what, Object due, Object got) {
        compared++;
        if (!String.valueOf(due).equals(String.valueOf(got))) {
            wrong++;
            System.out.println(what + ": answered " + got + ", due is " + due);
        }
    }

    static void answers(String what, Object due, Call call) {
        is(what, due, answerOf(call));
    }

    /** That a call is refused, and that all that can be asked of the roll is then as it was. */
    static void refuses(String what, String exception, CountedRoll roll, Call call) {
        String before = Look.at(roll);
        is(what, exception, answerOf(call));
        is(what + " changed nothing", before, Look.at(roll));
    }

    /** The same of a call that is told of which roll. */
    static void refuses(String what, String exception, CountedRoll roll, Function<CountedRoll, Object> call) {
        refuses(what, exception, roll, () -> call.apply(roll));
    }

    static boolean isAnyWrong() {
        return wrong > 0;
    }

    static void end() {
        System.out.println(wrong == 0 ? "all " + compared + " answers are as due"
                : wrong + " of " + compared + " answers are not as due");
        if (wrong != 0 || compared == 0) {
            System.exit(1);
        }
    }
}
