/** Compares answers with those that are due, prints the others, and ends the test's program. */
final class Due {
    interface Call {
        int answer();
    }

    private int asked = 0;
    private int wrong = 0;

    void answers(String call, int due, Call made) {
        compare(call, Integer.toString(due), outcome(made));
    }

    void refuses(String call, Class<? extends RuntimeException> due, Call made) {
        compare(call, nameOf(due), outcome(made));
    }

    void compare(String call, String due, String got) {
        asked++;
        if (!got.equals(due)) {
            wrong++;
            System.out.println(call + " answered " + got + ", due is " + due);
        }
    }

    /** The answer, or the very class that was thrown: a subclass of the one that is due is wrong. */
    static String outcome(Call made) {
        try {
            return Integer.toString(made.answer());
        } catch (RuntimeException thrown) {
            return nameOf(thrown.getClass());
        }
    }

    static String nameOf(Class<? extends RuntimeException> thrown) {
        return "throws." + thrown.getName();
    }

    void end(String test) {
        System.out.println(test + ": " + asked + " answers, " + wrong + " not as due");
        if (wrong != 0 || asked == 0) {
            System.exit(1);
        }
    }
}
