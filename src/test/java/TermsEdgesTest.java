import java.util.function.IntConsumer;

/** The edges that the section "Terms" names for all calls: no such order or line, and what is thrown first. */
public final class TermsEdgesTest {
    private static final Check CHECK = new Check("TermsEdgesTest");
    private static final int MIN = Integer.MIN_VALUE;
    private static final int MAX = Integer.MAX_VALUE;

    public static void main(String[] args) {
        noSuchOrder();
        noSuchLine();
        linesOfAnotherOrder();
        firstOfOrder();
        firstOfAdd();
        firstOfPay();
        firstOfMayComeBack();
        firstOfAsk();
        firstOfExchange();
        firstOfGrade();
        firstOfTaken();
        firstOfPass();
        fullObject();
        CHECK.end();
    }

    private static void noSuchOrder() {
        CHECK.sentence("A method throws IndexOutOfBoundsException if there is no such order or line");
        ReturnsDesk empty = new ReturnsDesk();
        for (int order : new int[] {MIN, -1, 0, 1, 29, 30, 31, MAX}) {
            ordersRefuse("no orders", empty, order);
        }
        ReturnsDesk one = Desks.sold(100, ReturnsDesk.PLAIN);
        for (int order : new int[] {MIN, MIN + 1, -30, -1, 1, 2, 29, 30, 31, MAX - 1, MAX}) {
            ordersRefuse("one order", one, order);
        }
        ReturnsDesk full = new ReturnsDesk();
        for (int order = 0; order < 30; order++) {
            full.order(0, 0);
        }
        CHECK.is("the last order", 0, full.price(29));
        for (int order : new int[] {MIN, -1, 30, 31, 1 << 16, MAX}) {
            ordersRefuse("all orders", full, order);
        }
    }

    private static void ordersRefuse(String what, ReturnsDesk desk, int order) {
        String of = what + ", order " + order;
        CHECK.fails(of + ": add", Check.INDEX, () -> desk.add(order, 1, 0));
        CHECK.fails(of + ": pay", Check.INDEX, () -> desk.pay(order, 0, 0));
        CHECK.fails(of + ": price", Check.INDEX, () -> desk.price(order));
        CHECK.fails(of + ": fees", Check.INDEX, () -> desk.fees(order));
        CHECK.fails(of + ": charges", Check.INDEX, () -> desk.charges(order));
        CHECK.fails(of + ": taken", Check.INDEX, () -> desk.taken(order, 0));
        CHECK.fails(of + ": refunded", Check.INDEX, () -> desk.refunded(order));
        CHECK.fails(of + ": isShortBy", Check.INDEX, () -> desk.isShortBy(order));
        linesRefuse(what, desk, order, 0);
    }

    private static void noSuchLine() {
        CHECK.sentence("A method throws IndexOutOfBoundsException if there is no such order or line");
        ReturnsDesk none = Desks.open(0, 0, ReturnsDesk.PLAIN);
        for (int line : new int[] {MIN, -1, 0, 1, 7, 8, 9, MAX}) {
            linesRefuse("no lines", none, 0, line);
        }
        ReturnsDesk two = Desks.paid(0, 0, ReturnsDesk.PLAIN, 10, 20);
        CHECK.is("the last of two", ReturnsDesk.KEPT, two.state(0, 1));
        for (int line : new int[] {MIN, -2, -1, 2, 3, 7, 8, 9, MAX}) {
            linesRefuse("two lines", two, 0, line);
        }
        ReturnsDesk full = Desks.paid(0, 0, ReturnsDesk.PLAIN, 1, 2, 3, 4, 5, 6, 7, 8);
        CHECK.is("the last of eight", ReturnsDesk.KEPT, full.state(0, 7));
        for (int line : new int[] {MIN, -8, -1, 8, 9, 30, MAX}) {
            linesRefuse("eight lines", full, 0, line);
        }
    }

    private static void linesRefuse(String what, ReturnsDesk desk, int order, int line) {
        String of = what + ", line (" + order + ", " + line + ")";
        CHECK.fails(of + ": mayComeBack", Check.INDEX, () -> desk.mayComeBack(order, line, 0) ? 1 : 0);
        CHECK.fails(of + ": ask", Check.INDEX, () -> desk.ask(order, line, 0));
        CHECK.fails(of + ": exchange", Check.INDEX, () -> desk.exchange(order, line, 0));
        CHECK.fails(of + ": grade", Check.INDEX, () -> desk.grade(order, line, 0));
        CHECK.fails(of + ": state", Check.INDEX, () -> desk.state(order, line));
    }

    /** A number that is a line's of one order is none of another that has fewer. */
    private static void linesOfAnotherOrder() {
        CHECK.sentence("A method throws IndexOutOfBoundsException if there is no such order or line");
        ReturnsDesk desk = Desks.ofEverySort();
        linesRefuse("beside others", desk, 1, 2);
        linesRefuse("beside others", desk, 2, 0);
        linesRefuse("beside others", desk, 0, 5);
        CHECK.is("the 8th line of another", ReturnsDesk.KEPT, desk.state(3, 7));
    }

    private static void firstListed() {
        CHECK.sentence("if several apply, the one that it lists first is thrown");
    }

    private static void firstOfOrder() {
        firstListed();
        ReturnsDesk desk = new ReturnsDesk();
        for (int i = 0; i < 30; i++) {
            desk.order(0, 0);
        }
        CHECK.fails("full, percent below", Check.ARGUMENT, () -> desk.order(-1, 0));
        CHECK.fails("full, percent above", Check.ARGUMENT, () -> desk.order(91, 0));
        CHECK.fails("full, least below", Check.ARGUMENT, () -> desk.order(0, -1));
        CHECK.fails("full, least above", Check.ARGUMENT, () -> desk.order(0, 1000001));
        CHECK.fails("full alone", Check.STATE, () -> desk.order(0, 0));
    }

    private static void firstOfAdd() {
        firstListed();
        ReturnsDesk desk = Desks.ofEverySort();
        CHECK.fails("no order, price 0", Check.INDEX, () -> desk.add(4, 0, 0));
        CHECK.fails("no order, kind 3", Check.INDEX, () -> desk.add(-1, 1, 3));
        for (int order : new int[] {0, 3}) {
            String what = order == 0 ? "paid" : "8 lines";
            CHECK.fails(what + ", price 0", Check.ARGUMENT, () -> desk.add(order, 0, 0));
            CHECK.fails(what + ", price 100001", Check.ARGUMENT, () -> desk.add(order, 100001, 0));
            CHECK.fails(what + ", kind -1", Check.ARGUMENT, () -> desk.add(order, 1, -1));
            CHECK.fails(what + ", kind 3", Check.ARGUMENT, () -> desk.add(order, 1, 3));
            CHECK.fails(what + " alone", Check.STATE, () -> desk.add(order, 1, 0));
        }
    }

    private static void firstOfPay() {
        firstListed();
        ReturnsDesk desk = Desks.ofEverySort();
        CHECK.fails("no order, points -1", Check.INDEX, () -> desk.pay(4, -1, 0));
        CHECK.fails("no order, voucher 1000001", Check.INDEX, () -> desk.pay(-1, 0, 1000001));
        for (int order : new int[] {0, 2}) {
            String what = order == 0 ? "paid" : "no lines";
            CHECK.fails(what + ", points -1", Check.ARGUMENT, () -> desk.pay(order, -1, 0));
            CHECK.fails(what + ", points 1000001", Check.ARGUMENT, () -> desk.pay(order, 1000001, 0));
            CHECK.fails(what + ", voucher -1", Check.ARGUMENT, () -> desk.pay(order, 0, -1));
            CHECK.fails(what + ", voucher 1000001", Check.ARGUMENT, () -> desk.pay(order, 0, 1000001));
            CHECK.fails(what + " alone", Check.STATE, () -> desk.pay(order, 0, 0));
        }
    }

    private static void firstOfMayComeBack() {
        firstListed();
        ReturnsDesk desk = Desks.ofEverySort();
        CHECK.fails("no order, reason 2", Check.INDEX, () -> desk.mayComeBack(4, 0, 2) ? 1 : 0);
        CHECK.fails("no line, reason -1", Check.INDEX, () -> desk.mayComeBack(0, 5, -1) ? 1 : 0);
        CHECK.is("no answer but false is due for ASKED", false, desk.mayComeBack(0, 1, 0));
        CHECK.fails("ASKED, reason 2", Check.ARGUMENT, () -> desk.mayComeBack(0, 1, 2) ? 1 : 0);
        CHECK.fails("not paid, reason -1", Check.ARGUMENT, () -> desk.mayComeBack(1, 0, -1) ? 1 : 0);
    }

    private static void firstOfAsk() {
        firstListed();
        ReturnsDesk desk = Desks.ofEverySort();
        CHECK.fails("no order, reason 2", Check.INDEX, () -> desk.ask(4, 0, 2));
        CHECK.fails("no line, reason 2", Check.INDEX, () -> desk.ask(0, 5, 2));
        CHECK.fails("no line of an order that is not paid", Check.INDEX, () -> desk.ask(1, 2, 0));
        mayNotComeBack((line) -> {
            CHECK.fails("line " + line + ", reason 2", Check.ARGUMENT, () -> desk.ask(0, line, 2));
            CHECK.fails("line " + line + ", reason -1", Check.ARGUMENT, () -> desk.ask(0, line, -1));
            CHECK.fails("line " + line + " alone", Check.STATE, () -> desk.ask(0, line, 0));
        });
        CHECK.fails("not paid, reason 2", Check.ARGUMENT, () -> desk.ask(1, 0, 2));
    }

    private static void firstOfExchange() {
        firstListed();
        ReturnsDesk desk = Desks.ofEverySort();
        CHECK.fails("no order, reason 2", Check.INDEX, () -> desk.exchange(4, 0, 2));
        CHECK.fails("no line, reason 2", Check.INDEX, () -> desk.exchange(0, 5, 2));
        CHECK.fails("no line of an order that is not paid", Check.INDEX, () -> desk.exchange(1, 2, 0));
        mayNotComeBack((line) -> {
            CHECK.fails("line " + line + ", reason 2", Check.ARGUMENT, () -> desk.exchange(0, line, 2));
            CHECK.fails("line " + line + ", reason -1", Check.ARGUMENT, () -> desk.exchange(0, line, -1));
            CHECK.fails("line " + line + " alone", Check.STATE, () -> desk.exchange(0, line, 0));
        });
        CHECK.fails("not paid, reason 2", Check.ARGUMENT, () -> desk.exchange(1, 0, 2));
    }

    /** Lines of the desk of every sort: ASKED, EXCHANGED, BACK, and a FINAL one. */
    private static void mayNotComeBack(IntConsumer checks) {
        for (int line = 1; line <= 4; line++) {
            checks.accept(line);
        }
    }

    private static void firstOfGrade() {
        firstListed();
        ReturnsDesk desk = Desks.ofEverySort();
        CHECK.fails("no order, grade 4", Check.INDEX, () -> desk.grade(4, 0, 4));
        CHECK.fails("no line, grade 4", Check.INDEX, () -> desk.grade(0, 5, 4));
        CHECK.fails("no line of an order that is not paid", Check.INDEX, () -> desk.grade(1, 2, 0));
        for (int line : new int[] {0, 3}) {
            String what = line == 0 ? "KEPT" : "BACK";
            CHECK.fails(what + ", grade -1", Check.ARGUMENT, () -> desk.grade(0, line, -1));
            CHECK.fails(what + ", grade 4", Check.ARGUMENT, () -> desk.grade(0, line, 4));
            CHECK.fails(what + " alone", Check.STATE, () -> desk.grade(0, line, 0));
        }
        CHECK.fails("not paid, grade 4", Check.ARGUMENT, () -> desk.grade(1, 0, 4));
    }

    private static void firstOfTaken() {
        firstListed();
        ReturnsDesk desk = Desks.ofEverySort();
        CHECK.fails("no order, way 3", Check.INDEX, () -> desk.taken(4, 3));
        CHECK.fails("no order, way -1", Check.INDEX, () -> desk.taken(-1, -1));
    }

    private static void firstOfPass() {
        firstListed();
        ReturnsDesk desk = new ReturnsDesk();
        Desks.passAll(desk, 10000);
        CHECK.fails("last day, days 401", Check.ARGUMENT, () -> desk.pass(401));
        CHECK.fails("last day, most days", Check.ARGUMENT, () -> desk.pass(MAX));
        CHECK.fails("last day, days 0", Check.ARGUMENT, () -> desk.pass(0));
        CHECK.fails("last day alone", Check.STATE, () -> desk.pass(1));
    }

    /** As many lines as there can be, and as many calls: the 512th ends 211 waits at once. */
    private static void fullObject() {
        CHECK.sentence("An object is used for at most 512 calls after it has been made");
        ReturnsDesk desk = new ReturnsDesk();
        int calls = 0;
        for (int order = 0; order < 30; order++) {
            desk.order(90, 800000);
            for (int line = 0; line < 8; line++) {
                desk.add(order, 100000, ReturnsDesk.PLAIN);
            }
            CHECK.is("pay " + order, 80000, desk.pay(order, 0, 0));
            calls += 10;
        }
        int waits = 0;
        while (calls < 511) {
            CHECK.is("wait " + waits, 21, desk.exchange(waits / 8, waits % 8, ReturnsDesk.CHANGE));
            waits++;
            calls++;
        }
        CHECK.is("the 512th call", waits, desk.pass(21));
        CHECK.is("waits", 211, waits);
    }
}
