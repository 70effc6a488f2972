/** Compares answers with those that are due, prints the wrong ones, and ends the test with exit code 1 if there was one. */
final class Answers {
    interface Call {
        long answer();
    }

    interface Test {
        void run(Answers answers);
    }

    private String heading = "";
    private int asked = 0;
    private int wrong = 0;

    /** A sentence of the document with a test of its own, whose wrong answers are printed behind the sentence's words. */
    void sentence(String words, Test test) {
        int askedBefore = asked;
        heading = words + " | ";
        try {
            test.run(this);
        } catch (RuntimeException thrown) {
            printWrong("the test itself was ended by " + thrown);
        }
        // A test that asks nothing would pass whatever the class does.
        if (asked == askedBefore) {
            printWrong("nothing was asked");
        }
        heading = "";
    }

    void due(String call, long want, Call made) {
        compare(call, String.valueOf(want), outcome(made));
    }

    void dueIllegalArgument(String call, Call made) {
        compare(call, "throws.IllegalArgumentException", outcome(made));
    }

    void dueIllegalState(String call, Call made) {
        compare(call, "throws.IllegalStateException", outcome(made));
    }

    void compare(String call, String want, String got) {
        asked++;
        if (!want.equals(got)) {
            printWrong(call + " answered " + got + ", due is " + want);
        }
    }

    /** The exact class counts: a subclass of a documented exception is not the documented one. */
    static String outcome(Call made) {
        try {
            return String.valueOf(made.answer());
        } catch (RuntimeException thrown) {
            return "throws." + thrown.getClass().getSimpleName();
        }
    }

    static long bit(boolean value) {
        return value ? 1 : 0;
    }

    void end() {
        System.out.println(asked + " answers, " + wrong + " wrong");
        if (wrong != 0 || asked == 0) {
            System.exit(1);
        }
    }

    private void printWrong(String what) {
        wrong++;
        System.out.println(heading + what);
    }
}
