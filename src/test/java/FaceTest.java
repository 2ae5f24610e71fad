import java.lang.reflect.Constructor;
import java.lang.reflect.Field;
import java.lang.reflect.Method;
import java.lang.reflect.Modifier;
import java.util.ArrayList;
import java.util.Arrays;
import java.util.Collections;
import java.util.List;
import java.util.TreeSet;

/** The face: the document's constants, constructor and methods, and no other visible member. */
public final class FaceTest {
    private static final Check CHECK = new Check("FaceTest");

    private static final String INDEX = "IndexOutOfBoundsException";
    private static final String ARGUMENT = "IllegalArgumentException";
    private static final String STATE = "IllegalStateException";
    private static final String[] METHODS = {
        "int order(int, int) " + ARGUMENT + " " + STATE,
        "int add(int, int, int) " + INDEX + " " + ARGUMENT + " " + STATE,
        "int pay(int, int, int) " + INDEX + " " + ARGUMENT + " " + STATE,
        "int orders()",
        "boolean mayComeBack(int, int, int) " + INDEX + " " + ARGUMENT,
        "int ask(int, int, int) " + INDEX + " " + ARGUMENT + " " + STATE,
        "int exchange(int, int, int) " + INDEX + " " + ARGUMENT + " " + STATE,
        "int grade(int, int, int) " + INDEX + " " + ARGUMENT + " " + STATE,
        "int state(int, int) " + INDEX,
        "int price(int) " + INDEX,
        "int fees(int) " + INDEX,
        "int charges(int) " + INDEX,
        "int taken(int, int) " + INDEX + " " + ARGUMENT,
        "int refunded(int) " + INDEX,
        "int isShortBy(int) " + INDEX,
        "int stock(int) " + ARGUMENT,
        "int pass(int) " + ARGUMENT + " " + STATE,
        "int day()",
    };
    private static final String[] CONSTANTS = {
        "PLAIN 0", "SEALED 1", "FINAL 2", "KEPT 0", "ASKED 1", "EXCHANGED 2", "BACK 3",
        "CHANGE 0", "FAULT 1", "NEW 0", "OPENED 1", "SPOILED 2", "OTHER 3",
        "CARD 0", "VOUCHER 1", "POINTS 2",
    };

    public static void main(String[] args) throws IllegalAccessException {
        CHECK.is("public and final", Modifier.PUBLIC | Modifier.FINAL, ReturnsDesk.class.getModifiers());
        sameTexts("methods", METHODS, visibleMethods());
        sameTexts("constants", CONSTANTS, visibleConstants());
        constructors();
        privateNames();
        CHECK.end();
    }

    private static void sameTexts(String what, String[] due, List<String> found) {
        List<String> wanted = new ArrayList<>(Arrays.asList(due));
        Collections.sort(wanted);
        Collections.sort(found);
        CHECK.is(what, true, wanted.equals(found));
        if (!wanted.equals(found)) {
            System.out.println("due: " + wanted + "\nfound: " + found);
        }
    }

    private static List<String> visibleMethods() {
        List<String> found = new ArrayList<>();
        for (Method method : ReturnsDesk.class.getDeclaredMethods()) {
            if (!Modifier.isPrivate(method.getModifiers())) {
                CHECK.is(method.getName() + " is public alone", Modifier.PUBLIC, method.getModifiers());
                found.add(textOf(method));
            }
        }
        return found;
    }

    private static String textOf(Method method) {
        StringBuilder text = new StringBuilder(method.getReturnType() + " " + method.getName() + "(");
        for (Class<?> type : method.getParameterTypes()) {
            text.append(text.charAt(text.length() - 1) == '(' ? "" : ", ").append(type);
        }
        text.append(")");
        for (Class<?> type : method.getExceptionTypes()) {
            text.append(" ").append(type.getSimpleName());
        }
        return text.toString();
    }

    private static List<String> visibleConstants() throws IllegalAccessException {
        List<String> found = new ArrayList<>();
        int modifiers = Modifier.PUBLIC | Modifier.STATIC | Modifier.FINAL;
        for (Field field : ReturnsDesk.class.getDeclaredFields()) {
            if (!Modifier.isPrivate(field.getModifiers())) {
                CHECK.is(field.getName() + " is public static final", modifiers, field.getModifiers());
                found.add(field.getName() + " " + field.getInt(null));
            }
        }
        return found;
    }

    private static void constructors() {
        Constructor<?>[] found = ReturnsDesk.class.getDeclaredConstructors();
        CHECK.is("constructors", 1, found.length);
        CHECK.is("its parameters", 0, found[0].getParameterCount());
        CHECK.is("public", Modifier.PUBLIC, found[0].getModifiers());
    }

    /** No private method, of the class or of one inside it, bears the name of a public one. */
    private static void privateNames() {
        TreeSet<String> faceNames = new TreeSet<>();
        TreeSet<String> ownNames = new TreeSet<>();
        for (Method method : ReturnsDesk.class.getDeclaredMethods()) {
            (Modifier.isPublic(method.getModifiers()) ? faceNames : ownNames).add(method.getName());
        }
        for (Class<?> inside : ReturnsDesk.class.getDeclaredClasses()) {
            CHECK.is(inside + " is static", true, Modifier.isStatic(inside.getModifiers()));
            for (Method method : inside.getDeclaredMethods()) {
                ownNames.add(method.getName());
            }
        }
        ownNames.retainAll(faceNames);
        CHECK.is("names that stand twice " + ownNames, 0, ownNames.size());
    }
}
