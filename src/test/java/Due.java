/** Compares answers with those that are due, and counts the wrong ones. */
final class Due {
    /** A call of which only what it throws is wanted. */
    interface Call {
        void run();
    }

    private static int wrong = 0;

    private Due() {
    }

    static void is(String what, Object got, Object want) {
        if (!got.equals(want)) {
            wrong++;
            System.out.println(what + " answered " + got + ", due is " + want);
        }
    }

    static void raises(String what, Class<?> want, Call call) {
        Class<?> got = null;
        try {
            call.run();
        } catch (RuntimeException e) {
            got = e.getClass();
        }
        if (got != want) {
            wrong++;
            System.out.println(what + " threw " + got + ", due is " + want);
        }
    }

    static void done(String name) {
        System.out.println(name + ": " + (wrong == 0 ? "all answers are as due" : wrong + " answers are not as due"));
        if (wrong != 0) {
            System.exit(1);
        }
    }
}
