import java.io.IOException;
import java.lang.reflect.Field;
import java.lang.reflect.Method;
import java.lang.reflect.Modifier;
import java.nio.file.DirectoryStream;
import java.nio.file.Files;
import java.nio.file.Path;

/** README.md: its example answers as it tells, and it names every call, constant and test. */
public final class ReadmeTest {
    private static final Check CHECK = new Check("ReadmeTest");
    private static final Path README = Path.of("README.md");
    private static final Path TESTS = Path.of("src/test/java");

    private static String readme;

    public static void main(String[] args) throws IOException {
        readme = Files.readString(README);
        example();
        calls();
        constants();
        tests();
        CHECK.end();
    }

    private static void tells(String words) {
        CHECK.is("README.md tells: " + words, true, readme.contains(words));
    }

    /** The example call by call; each line of it must stand in README.md as it is run here. */
    private static void example() {
        tells("ReturnsDesk desk = new ReturnsDesk();\n");
        ReturnsDesk desk = new ReturnsDesk();
        tells("\nint order = desk.order(10, 5000); ");
        int order = desk.order(10, 5000);
        tells("\nint line = desk.add(order, 3000, ReturnsDesk.PLAIN);\n");
        int line = desk.add(order, 3000, ReturnsDesk.PLAIN);
        tells("\ndesk.add(order, 2500, ReturnsDesk.SEALED);\n");
        desk.add(order, 2500, ReturnsDesk.SEALED);
        tells("\nint byCard = desk.pay(order, 1000, 500); ");
        tells("10.00 by points, 5.00 by voucher: 3450 by card\n");
        CHECK.is("pay", 3450, desk.pay(order, 1000, 500));
        CHECK.is("by points", 1000, desk.taken(order, ReturnsDesk.POINTS));
        CHECK.is("by voucher", 500, desk.taken(order, ReturnsDesk.VOUCHER));
        tells("\ndesk.pass(3);\n");
        desk.pass(3);
        tells("\ndesk.ask(order, line, ReturnsDesk.FAULT); ");
        tells("answers 24: the day on which it is KEPT again\n");
        CHECK.is("ask", 24, desk.ask(order, line, ReturnsDesk.FAULT));
        tells("\ndesk.grade(order, line, ReturnsDesk.NEW); ");
        tells("answers 2450: the coupon fails for the rest\n");
        CHECK.is("grade", 2450, desk.grade(order, line, ReturnsDesk.NEW));
        CHECK.is("the rest without the coupon", 2500, desk.price(order));
    }

    private static void calls() {
        for (Method method : ReturnsDesk.class.getDeclaredMethods()) {
            if (Modifier.isPublic(method.getModifiers())) {
                String end = method.getParameterCount() == 0 ? "()`" : "(";
                tells("`" + method.getName() + end);
            }
        }
    }

    private static void constants() {
        for (Field field : ReturnsDesk.class.getDeclaredFields()) {
            if (Modifier.isPublic(field.getModifiers())) {
                tells("`" + field.getName() + "`");
            }
        }
    }

    private static void tests() throws IOException {
        try (DirectoryStream<Path> files = Files.newDirectoryStream(TESTS, "*Test.java")) {
            for (Path file : files) {
                tells("| `" + file.getFileName().toString().replace(".java", "") + "` |");
            }
        }
    }
}
