import java.util.function.Supplier;
import java.util.function.ToLongFunction;

/**
 * A call that throws changes nothing: each refused call is made of one of two desks that are alike,
 * and behind it both answer the same, on that day and on those that follow.
 */
public final class RefusedCallsTest {
    private static final Check CHECK = new Check("RefusedCallsTest");
    private static final int LAST_DAY = 10000;

    public static void main(String[] args) {
        CHECK.sentence("A call that throws changes nothing.");
        order();
        add();
        pay();
        ask();
        exchange();
        grade();
        questions();
        pass();
        CHECK.end();
    }

    private static void refused(String what, Class<?> due, ToLongFunction<ReturnsDesk> call) {
        refused(what, due, call, Desks::ofEverySort);
    }

    private static void refused(
            String what, Class<?> due, ToLongFunction<ReturnsDesk> call, Supplier<ReturnsDesk> scene) {
        ReturnsDesk desk = scene.get();
        ReturnsDesk twin = scene.get();
        CHECK.fails(what, due, () -> call.applyAsLong(desk));
        CHECK.is(what + ": answers behind it", Desks.answers(twin), Desks.answers(desk));
        CHECK.is(what + ": days behind it", days(twin), days(desk));
        CHECK.is(what + ": answers at the end", Desks.answers(twin), Desks.answers(desk));
    }

    /** What the desk of every sort does in the days in which its waits end, and with its open orders. */
    private static String days(ReturnsDesk desk) {
        StringBuilder text = new StringBuilder();
        int days = Math.min(24, LAST_DAY - desk.day());
        for (int day = 0; day < days; day++) {
            text.append(desk.pass(1)).append(' ');
        }
        text.append(desk.mayComeBack(0, 0, ReturnsDesk.CHANGE)).append(' ');
        text.append(desk.ask(0, 1, ReturnsDesk.FAULT)).append(' ');
        text.append(desk.grade(0, 1, ReturnsDesk.OTHER)).append(' ');
        text.append(desk.pay(1, 10, 10)).append(' ');
        text.append(desk.add(2, 77, ReturnsDesk.PLAIN)).append(' ');
        text.append(desk.pay(3, 0, 0)).append(' ');
        text.append(desk.order(0, 0));
        return text.toString();
    }

    private static void order() {
        refused("order(-1, 0)", Check.ARGUMENT, (desk) -> desk.order(-1, 0));
        refused("order(91, 0)", Check.ARGUMENT, (desk) -> desk.order(91, 0));
        refused("order(0, -1)", Check.ARGUMENT, (desk) -> desk.order(0, -1));
        refused("order(0, 1000001)", Check.ARGUMENT, (desk) -> desk.order(0, 1000001));
        ReturnsDesk full = new ReturnsDesk();
        for (int i = 0; i < 30; i++) {
            full.order(10, 0);
        }
        full.add(29, 100, ReturnsDesk.PLAIN);
        CHECK.fails("the 31st", Check.STATE, () -> full.order(90, 0));
        CHECK.is("orders", 30, full.orders());
        CHECK.is("the 30th is as it was", 90, full.price(29));
        CHECK.is("and the first", 0, full.price(0));
    }

    private static void add() {
        refused("add, no order", Check.INDEX, (desk) -> desk.add(4, 1, 0));
        refused("add, price 0", Check.ARGUMENT, (desk) -> desk.add(2, 0, 0));
        refused("add, price 100001", Check.ARGUMENT, (desk) -> desk.add(1, 100001, 0));
        refused("add, kind -1", Check.ARGUMENT, (desk) -> desk.add(1, 1, -1));
        refused("add, kind 3", Check.ARGUMENT, (desk) -> desk.add(2, 1, 3));
        refused("add, paid", Check.STATE, (desk) -> desk.add(0, 1, 0));
        refused("add, 8 lines", Check.STATE, (desk) -> desk.add(3, 1, 0));
    }

    private static void pay() {
        refused("pay, no order", Check.INDEX, (desk) -> desk.pay(4, 0, 0));
        refused("pay, points -1", Check.ARGUMENT, (desk) -> desk.pay(1, -1, 0));
        refused("pay, points 1000001", Check.ARGUMENT, (desk) -> desk.pay(1, 1000001, 0));
        refused("pay, voucher -1", Check.ARGUMENT, (desk) -> desk.pay(1, 5, -1));
        refused("pay, voucher 1000001", Check.ARGUMENT, (desk) -> desk.pay(3, 5, 1000001));
        refused("pay, no lines", Check.STATE, (desk) -> desk.pay(2, 0, 0));
        refused("pay, paid", Check.STATE, (desk) -> desk.pay(0, 1000000, 1000000));
    }

    private static void ask() {
        refused("ask, no order", Check.INDEX, (desk) -> desk.ask(4, 0, 0));
        refused("ask, no line", Check.INDEX, (desk) -> desk.ask(0, 5, 0));
        refused("ask, reason -1", Check.ARGUMENT, (desk) -> desk.ask(0, 0, -1));
        refused("ask, reason 2", Check.ARGUMENT, (desk) -> desk.ask(0, 0, 2));
        refused("ask, not paid", Check.STATE, (desk) -> desk.ask(1, 0, 1));
        refused("ask, ASKED", Check.STATE, (desk) -> desk.ask(0, 1, 1));
        refused("ask, EXCHANGED", Check.STATE, (desk) -> desk.ask(0, 2, 0));
        refused("ask, BACK", Check.STATE, (desk) -> desk.ask(0, 3, 1));
        refused("ask, FINAL", Check.STATE, (desk) -> desk.ask(0, 4, 0));
    }

    private static void exchange() {
        refused("exchange, no order", Check.INDEX, (desk) -> desk.exchange(4, 0, 0));
        refused("exchange, no line", Check.INDEX, (desk) -> desk.exchange(0, 5, 0));
        refused("exchange, reason -1", Check.ARGUMENT, (desk) -> desk.exchange(0, 0, -1));
        refused("exchange, reason 2", Check.ARGUMENT, (desk) -> desk.exchange(0, 0, 2));
        refused("exchange, not paid", Check.STATE, (desk) -> desk.exchange(1, 0, 1));
        refused("exchange, ASKED", Check.STATE, (desk) -> desk.exchange(0, 1, 1));
        refused("exchange, EXCHANGED", Check.STATE, (desk) -> desk.exchange(0, 2, 0));
        refused("exchange, BACK", Check.STATE, (desk) -> desk.exchange(0, 3, 1));
        refused("exchange, FINAL", Check.STATE, (desk) -> desk.exchange(0, 4, 0));
    }

    private static void grade() {
        refused("grade, no order", Check.INDEX, (desk) -> desk.grade(4, 0, 0));
        refused("grade, no line", Check.INDEX, (desk) -> desk.grade(0, 5, 0));
        refused("grade, grade -1", Check.ARGUMENT, (desk) -> desk.grade(0, 1, -1));
        refused("grade, grade 4", Check.ARGUMENT, (desk) -> desk.grade(0, 2, 4));
        refused("grade, not paid", Check.STATE, (desk) -> desk.grade(1, 0, 0));
        refused("grade, KEPT", Check.STATE, (desk) -> desk.grade(0, 0, 1));
        refused("grade, KEPT and FINAL", Check.STATE, (desk) -> desk.grade(0, 4, 3));
        refused("grade, BACK", Check.STATE, (desk) -> desk.grade(0, 3, 2));
    }

    private static void questions() {
        refused("mayComeBack, no order", Check.INDEX, (desk) -> desk.mayComeBack(4, 0, 0) ? 1 : 0);
        refused("mayComeBack, no line", Check.INDEX, (desk) -> desk.mayComeBack(0, 5, 0) ? 1 : 0);
        refused("mayComeBack, reason 2", Check.ARGUMENT, (desk) -> desk.mayComeBack(0, 0, 2) ? 1 : 0);
        refused("state, no order", Check.INDEX, (desk) -> desk.state(4, 0));
        refused("state, no line", Check.INDEX, (desk) -> desk.state(2, 0));
        refused("price, no order", Check.INDEX, (desk) -> desk.price(4));
        refused("fees, no order", Check.INDEX, (desk) -> desk.fees(4));
        refused("charges, no order", Check.INDEX, (desk) -> desk.charges(4));
        refused("taken, no order", Check.INDEX, (desk) -> desk.taken(4, 0));
        refused("taken, way 3", Check.ARGUMENT, (desk) -> desk.taken(0, 3));
        refused("refunded, no order", Check.INDEX, (desk) -> desk.refunded(4));
        refused("isShortBy, no order", Check.INDEX, (desk) -> desk.isShortBy(4));
        refused("stock 3", Check.ARGUMENT, (desk) -> desk.stock(3));
    }

    private static void pass() {
        refused("pass 0", Check.ARGUMENT, (desk) -> desk.pass(0));
        refused("pass -1", Check.ARGUMENT, (desk) -> desk.pass(-1));
        refused("pass 401", Check.ARGUMENT, (desk) -> desk.pass(401));
        refused("pass over the last day", Check.STATE, (desk) -> desk.pass(25), RefusedCallsTest::late);
        refused("pass 400 over the last day", Check.STATE, (desk) -> desk.pass(400), RefusedCallsTest::late);
    }

    /** On the day 9976: an order like those of the desk of every sort, its waits to end before the last day. */
    private static ReturnsDesk late() {
        ReturnsDesk desk = new ReturnsDesk();
        Desks.passAll(desk, LAST_DAY - 24);
        for (int order = 0; order < 4; order++) {
            desk.order(10, 100);
            desk.add(order, 1000, ReturnsDesk.PLAIN);
            desk.add(order, 2000, ReturnsDesk.PLAIN);
        }
        desk.pay(0, 700, 900);
        desk.exchange(0, 0, ReturnsDesk.CHANGE);
        desk.ask(0, 1, ReturnsDesk.CHANGE);
        return desk;
    }
}
