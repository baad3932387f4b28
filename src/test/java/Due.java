/** Compares answers with those that are due, and ends a test with exit code 1 if one differed. */
final class Due {
    static final String ARGUMENT = "throws.IllegalArgumentException";
    static final String STATE = "throws.IllegalStateException";

    interface Call {
        Object answer();
    }

    private static int calls = 0;
    private static int wrong = 0;

    private Due() {
    }

    static Object answerOf(Call call) {
        try {
            return call.answer();
        } catch (RuntimeException e) {
            // The exact class: a subclass of what the document names is a wrong answer too.
            return "throws." + e.getClass().getSimpleName();
        }
    }

    static void due(String what, Object want, Call call) {
        Object got = answerOf(call);
        calls++;
        if (!want.equals(got)) {
            wrong++;
            System.out.println(what + " answered " + got + ", due is " + want);
        }
    }

    static void end() {
        System.out.println(calls + " answers compared, " + wrong + " not as due");
        if (wrong != 0 || calls == 0) {
            System.exit(1);
        }
    }
}
