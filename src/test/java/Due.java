/** Compares answers with those that are due, and counts the wrong ones. */
final class Due {
    static final String NO_INDEX = "throws.IndexOutOfBoundsException";
    static final String NO_ARGUMENT = "throws.IllegalArgumentException";
    static final String NO_STATE = "throws.IllegalStateException";
    static final String NO_ELEMENT = "throws.NoSuchElementException";

    /** A call of which only what it throws is wanted. */
    interface Call {
        void run();
    }

    interface Answer {
        Object get();
    }

    private static int wrong = 0;
    private static String about = "";

    private Due() {
    }

    /** What the next answers are about is printed before each wrong one. */
    static void about(String words) {
        about = words;
    }

    static void is(String what, Object got, Object want) {
        if (!got.equals(want)) {
            wrong++;
            System.out.println(about + what + " answered " + got + ", due is " + want);
        }
    }

    /** The answer as text, or "throws." and the name of the very class that is thrown. */
    static String outcome(Answer answer) {
        try {
            return String.valueOf(answer.get());
        } catch (RuntimeException e) {
            return "throws." + e.getClass().getSimpleName();
        }
    }

    static void raises(String what, String want, Call call) {
        String got = outcome(() -> {
            call.run();
            return "nothing thrown";
        });
        is(what, got, want);
    }

    static int wrong() {
        return wrong;
    }

    static void done(String name) {
        System.out.println(name + ": " + (wrong == 0 ? "all answers are as due" : wrong + " answers are not as due"));
        if (wrong != 0) {
            System.exit(1);
        }
    }
}
