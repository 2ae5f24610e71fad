/** Counts wrong answers; a test's main makes one, checks with it and ends with it. */
final class Check {
    /** A call of the face, its answer as a number (a boolean as 1 or 0). */
    interface Call {
        long answer();
    }

    static final Class<?> INDEX = IndexOutOfBoundsException.class;
    static final Class<?> ARGUMENT = IllegalArgumentException.class;
    static final Class<?> STATE = IllegalStateException.class;

    private final String test;
    private int wrong;
    private int checked;

    Check(String test) {
        this.test = test;
    }

    void is(String what, long want, long got) {
        checked++;
        if (want != got) {
            report(what + " answered " + got + ", due is " + want);
        }
    }

    void is(String what, boolean want, boolean got) {
        is(what, want ? 1 : 0, got ? 1 : 0);
    }

    /** The exception must be of that very class: a subclass would be the machine's own. */
    void fails(String what, Class<?> want, Call call) {
        checked++;
        try {
            report(what + " answered " + call.answer() + ", due is " + want.getSimpleName());
        } catch (RuntimeException thrown) {
            if (thrown.getClass() != want) {
                report(what + " threw " + thrown + ", due is " + want.getSimpleName());
            }
        }
    }

    void report(String line) {
        wrong++;
        System.out.println(test + ": " + line);
    }

    void end() {
        System.out.println(test + ": " + checked + " checks, " + wrong + " wrong");
        if (wrong != 0) {
            System.exit(1);
        }
    }
}
