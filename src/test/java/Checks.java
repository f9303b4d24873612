/** What the tests share: answers are counted, and a test with a wrong one ends with exit code 1. */
final class Checks {
    static final long INDEX = -1001;
    static final long STATE = -1002;
    static final long OTHER = -1003;

    interface Call {
        int go();
    }

    private final String name;
    private String sentence = "";
    private int asked = 0;
    private int wrong = 0;

    Checks(String name) {
        this.name = name;
    }

    /** The words of the document that the answers from here on are about. */
    void sentence(String words) {
        sentence = " [" + words + "]";
    }

    void due(String call, long got, long want) {
        asked++;
        if (got != want) {
            wrong++;
            System.out.println(name + sentence + ": " + call + " answered " + got + ", due is " + want);
        }
    }

    void yes(String call, boolean got) {
        due(call, got ? 1 : 0, 1);
    }

    void no(String call, boolean got) {
        due(call, got ? 1 : 0, 0);
    }

    void throwsIndex(String call, Call made) {
        due(call, answer(made), INDEX);
    }

    void throwsState(String call, Call made) {
        due(call, answer(made), STATE);
    }

    static long answer(Call made) {
        try {
            return made.go();
        } catch (RuntimeException e) {
            // An exception of the machine has a class of its own below these two.
            if (e.getClass() == IndexOutOfBoundsException.class) {
                return INDEX;
            }
            return e.getClass() == IllegalStateException.class ? STATE : OTHER;
        }
    }

    void end() {
        System.out.println(name + ": " + asked + " answers, " + wrong + " wrong");
        if (wrong != 0) {
            System.exit(1);
        }
    }
}
