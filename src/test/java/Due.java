import java.util.HashSet;
import java.util.Set;

/** Compares answers with those that are due, prints the others, and ends the test's program. */
final class Due {
    interface Call {
        int answer();
    }

    interface LoomCall {
        int on(ReelLoom loom);
    }

    interface Maker {
        ReelLoom loom();
    }

    private final Set<String> sentences = new HashSet<>();
    private String sentence = "";
    private int asked = 0;
    private int wrong = 0;

    /** The sentence of ../shared/DOC.md that all answers from here on are about, in its own words. */
    void sentence(String section, String words) {
        sentence = section + ", \"" + words + "\": ";
        sentences.add(sentence);
    }

    void answers(String call, int due, Call made) {
        compare(call, Integer.toString(due), outcome(made));
    }

    void refuses(String call, Class<? extends RuntimeException> due, Call made) {
        compare(call, nameOf(due), outcome(made));
    }

    /** A refused call has to throw, and to leave the loom as one that never had it. */
    void refuses(String call, Class<? extends RuntimeException> due, Maker maker, LoomCall made) {
        ReelLoom loom = maker.loom();
        compare(call, nameOf(due), outcome(() -> made.on(loom)));
        compare("what is there behind " + call, Glance.of(maker.loom()), Glance.of(loom));
    }

    void compare(String call, String due, String got) {
        asked++;
        if (!got.equals(due)) {
            wrong++;
            System.out.println(sentence + call + " answered " + got + ", due is " + due);
        }
    }

    /** The answer, or the very class that was thrown: a subclass of the one that is due is wrong. */
    static String outcome(Call made) {
        try {
            return Integer.toString(made.answer());
        } catch (RuntimeException thrown) {
            return nameOf(thrown.getClass());
        }
    }

    static String nameOf(Class<? extends RuntimeException> thrown) {
        return "throws." + thrown.getName();
    }

    void end(String test) {
        System.out.println(test + ": " + sentences.size() + " sentences, " + asked + " answers, " + wrong + " not as due");
        if (wrong != 0 || asked == 0) {
            System.exit(1);
        }
    }
}
