/** Compares answers with those that are due, prints the wrong ones, and ends the test with exit code 1 if there was one. */
final class Answers {
    interface Call {
        long answer();
    }

    private int asked = 0;
    private int wrong = 0;

    void due(String call, long want, Call made) {
        compare(call, String.valueOf(want), outcome(made));
    }

    void dueIllegalArgument(String call, Call made) {
        compare(call, "throws.IllegalArgumentException", outcome(made));
    }

    void dueIllegalState(String call, Call made) {
        compare(call, "throws.IllegalStateException", outcome(made));
    }

    void compare(String call, String want, String got) {
        asked++;
        if (!want.equals(got)) {
            wrong++;
            System.out.println(call + " answered " + got + ", due is " + want);
        }
    }

    /** The exact class counts: a subclass of a documented exception is not the documented one. */
    static String outcome(Call made) {
        try {
            return String.valueOf(made.answer());
        } catch (RuntimeException thrown) {
            return "throws." + thrown.getClass().getSimpleName();
        }
    }

    static long bit(boolean value) {
        return value ? 1 : 0;
    }

    void end() {
        System.out.println(asked + " answers, " + wrong + " wrong");
        if (wrong != 0 || asked == 0) {
            System.exit(1);
        }
    }
}
