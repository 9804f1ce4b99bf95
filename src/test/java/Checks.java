/** Counts the answers that are not due; each test ends with {@link #end}. */
final class Checks {
    /** A call whose answer, or exception, is looked at. */
    interface Call {
        Object answer();
    }

    private int wrong;

    void due(String call, Object want, Call made) {
        Object got = answerOf(made);
        if (!want.equals(got)) {
            wrong++;
            System.out.println(call + " answered " + got + ", due is " + want);
        }
    }

    /** The class is looked at exactly, so that an exception of the machine itself does not pass for its parent. */
    static Object answerOf(Call made) {
        try {
            return made.answer();
        } catch (RuntimeException e) {
            return e.getClass();
        }
    }

    void end() {
        System.out.println(wrong == 0 ? "all answers are as due" : wrong + " answers are not as due");
        if (wrong != 0) {
            System.exit(1);
        }
    }
}
