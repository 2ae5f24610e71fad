import java.io.IOException;
import java.nio.file.Files;
import java.nio.file.Path;

/** Counts wrong answers; a test's main makes one, checks with it and ends with it. */
final class Check {
    /** A call of the face, its answer as a number (a boolean as 1 or 0). */
    interface Call {
        long answer();
    }

    static final Class<?> INDEX = IndexOutOfBoundsException.class;
    static final Class<?> ARGUMENT = IllegalArgumentException.class;
    static final Class<?> STATE = IllegalStateException.class;

    private static final Path DOCUMENT = Path.of("../shared/DOC.md");

    private final String test;
    private String document;
    private String about = "";
    private int wrong;
    private int checked;

    Check(String test) {
        this.test = test;
    }

    /** The words of the document that the checks from here on are about; they must stand there. */
    void sentence(String words) {
        about = " [" + words + "]";
        if (document == null) {
            document = readDocument();
        }
        is("the document says so", true, document.contains(words));
    }

    private static String readDocument() {
        try {
            return Files.readString(DOCUMENT);
        } catch (IOException unread) {
            throw new IllegalStateException("no document at " + DOCUMENT, unread);
        }
    }

    void is(String what, long want, long got) {
        checked++;
        if (want != got) {
            report(what + " answered " + got + ", due is " + want);
        }
    }

    void is(String what, boolean want, boolean got) {
        is(what, want ? 1 : 0, got ? 1 : 0);
    }

    void is(String what, String want, String got) {
        checked++;
        if (!want.equals(got)) {
            report(what + "\n  answered " + got + "\n  due is   " + want);
        }
    }

    /** The exception must be of that very class: a subclass would be the machine's own. */
    void fails(String what, Class<?> want, Call call) {
        checked++;
        try {
            report(what + " answered " + call.answer() + ", due is " + want.getSimpleName());
        } catch (RuntimeException thrown) {
            if (thrown.getClass() != want) {
                report(what + " threw " + thrown + ", due is " + want.getSimpleName());
            }
        }
    }

    void report(String line) {
        wrong++;
        System.out.println(test + about + ": " + line);
    }

    void end() {
        System.out.println(test + ": " + checked + " checks, " + wrong + " wrong");
        if (wrong != 0) {
            System.exit(1);
        }
    }
}
