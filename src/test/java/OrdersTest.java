/** Promises 1 to 5: a new object, order, add, pay, orders. */
public final class OrdersTest {
    private static final Check CHECK = new Check("OrdersTest");

    public static void main(String[] args) {
        newObject();
        orderNumbers();
        orderArguments();
        orderLimit();
        addNumbers();
        addArguments();
        addStates();
        couponRounding();
        couponLeastSum();
        payByWays();
        payDay();
        payArguments();
        payStates();
        objectsApart();
        CHECK.end();
    }

    private static void newObject() {
        ReturnsDesk desk = new ReturnsDesk();
        CHECK.is("new orders()", 0, desk.orders());
        CHECK.is("new day()", 0, desk.day());
        for (int stock = 0; stock < 3; stock++) {
            CHECK.is("new stock", 0, desk.stock(stock));
        }
        CHECK.fails("new price(0)", Check.INDEX, () -> desk.price(0));
    }

    private static void orderNumbers() {
        ReturnsDesk desk = new ReturnsDesk();
        CHECK.is("order(0, 0)", 0, desk.order(0, 0));
        CHECK.is("order(90, 1000000)", 1, desk.order(90, 1000000));
        CHECK.is("orders()", 2, desk.orders());
        CHECK.is("price of an order without lines", 0, desk.price(0));
        CHECK.is("fees of it", 0, desk.fees(0));
        CHECK.is("charges of it", 0, desk.charges(0));
        CHECK.is("refunded of it", 0, desk.refunded(0));
        CHECK.is("short by", 0, desk.isShortBy(0));
        for (int way = 0; way < 3; way++) {
            CHECK.is("taken of it", 0, desk.taken(0, way));
        }
    }

    private static void orderArguments() {
        ReturnsDesk desk = new ReturnsDesk();
        CHECK.fails("order(-1, 0)", Check.ARGUMENT, () -> desk.order(-1, 0));
        CHECK.fails("order(91, 0)", Check.ARGUMENT, () -> desk.order(91, 0));
        CHECK.fails("order(0, -1)", Check.ARGUMENT, () -> desk.order(0, -1));
        CHECK.fails("order(0, 1000001)", Check.ARGUMENT, () -> desk.order(0, 1000001));
        CHECK.is("orders() behind throws", 0, desk.orders());
    }

    private static void orderLimit() {
        ReturnsDesk desk = new ReturnsDesk();
        for (int i = 0; i < 30; i++) {
            CHECK.is("order " + i, i, desk.order(0, 0));
        }
        CHECK.fails("the 31st order", Check.STATE, () -> desk.order(0, 0));
        CHECK.fails("the 31st order, wrong percent", Check.ARGUMENT, () -> desk.order(91, 0));
        CHECK.fails("the 31st order, wrong least", Check.ARGUMENT, () -> desk.order(0, -1));
        CHECK.is("orders()", 30, desk.orders());
        CHECK.is("add to the last", 0, desk.add(29, 1, ReturnsDesk.PLAIN));
        CHECK.fails("add behind the last", Check.INDEX, () -> desk.add(30, 1, ReturnsDesk.PLAIN));
    }

    private static void addNumbers() {
        ReturnsDesk desk = new ReturnsDesk();
        desk.order(0, 0);
        desk.order(0, 0);
        CHECK.is("add(0, 1, PLAIN)", 0, desk.add(0, 1, ReturnsDesk.PLAIN));
        CHECK.is("add(0, 100000, SEALED)", 1, desk.add(0, 100000, ReturnsDesk.SEALED));
        CHECK.is("add(1, 70, FINAL)", 0, desk.add(1, 70, ReturnsDesk.FINAL));
        CHECK.is("price(0)", 100001, desk.price(0));
        CHECK.is("price(1)", 70, desk.price(1));
        CHECK.is("state(0, 1)", ReturnsDesk.KEPT, desk.state(0, 1));
    }

    private static void addArguments() {
        ReturnsDesk desk = new ReturnsDesk();
        desk.order(0, 0);
        CHECK.fails("add(-1, ..)", Check.INDEX, () -> desk.add(-1, 1, 0));
        CHECK.fails("add(1, ..)", Check.INDEX, () -> desk.add(1, 1, 0));
        CHECK.fails("no order, wrong price", Check.INDEX, () -> desk.add(1, 0, 3));
        CHECK.fails("price 0", Check.ARGUMENT, () -> desk.add(0, 0, 0));
        CHECK.fails("price 100001", Check.ARGUMENT, () -> desk.add(0, 100001, 0));
        CHECK.fails("kind -1", Check.ARGUMENT, () -> desk.add(0, 1, -1));
        CHECK.fails("kind 3", Check.ARGUMENT, () -> desk.add(0, 1, 3));
        CHECK.is("price(0) behind throws", 0, desk.price(0));
        CHECK.is("the first line", 0, desk.add(0, 1, 0));
    }

    private static void addStates() {
        ReturnsDesk desk = new ReturnsDesk();
        desk.order(0, 0);
        for (int i = 0; i < 8; i++) {
            CHECK.is("line " + i, i, desk.add(0, 100, ReturnsDesk.PLAIN));
        }
        CHECK.fails("the 9th line", Check.STATE, () -> desk.add(0, 100, 0));
        CHECK.fails("the 9th line, wrong price", Check.ARGUMENT, () -> desk.add(0, 0, 0));
        CHECK.fails("the 9th line, wrong kind", Check.ARGUMENT, () -> desk.add(0, 100, 3));
        CHECK.is("price(0)", 800, desk.price(0));
        desk.order(0, 0);
        desk.add(1, 100, 0);
        desk.pay(1, 0, 0);
        CHECK.fails("a line of a paid order", Check.STATE, () -> desk.add(1, 100, 0));
        CHECK.fails("a wrong one of a paid order", Check.ARGUMENT, () -> desk.add(1, 0, 0));
        CHECK.is("price(1)", 100, desk.price(1));
    }

    private static void couponRounding() {
        ReturnsDesk desk = new ReturnsDesk();
        desk.order(15, 0);
        desk.add(0, 99, 0);
        CHECK.is("99 less 14 (14.85)", 85, desk.price(0));
        desk.add(0, 7, 0);
        CHECK.is("106 less 15 (15.9): of the sum, not of each line", 91, desk.price(0));
        CHECK.is("paid", 91, desk.pay(0, 0, 0));
        desk.order(90, 0);
        for (int i = 0; i < 8; i++) {
            desk.add(1, 100000, 0);
        }
        CHECK.is("the dearest order", 80000, desk.price(1));
    }

    private static void couponLeastSum() {
        ReturnsDesk desk = new ReturnsDesk();
        desk.order(10, 1000);
        desk.add(0, 999, 0);
        CHECK.is("below the least sum", 999, desk.price(0));
        desk.add(0, 1, 0);
        CHECK.is("at the least sum", 900, desk.price(0));
        desk.add(0, 10, 0);
        CHECK.is("above the least sum", 909, desk.price(0));
    }

    private static void payByWays() {
        pays("all by card", 0, 0, 900, 0, 0);
        pays("points first", 300, 200, 400, 200, 300);
        pays("points at most the price", 901, 50, 0, 0, 900);
        pays("voucher at most the rest", 100, 1000000, 0, 800, 100);
        pays("points are the price", 900, 900, 0, 0, 900);
        pays("points and voucher are the price", 899, 1, 0, 1, 899);
        pays("a cent by card", 450, 449, 1, 449, 450);
        pays("most points", 1000000, 1000000, 0, 0, 900);
    }

    private static void pays(String what, int points, int voucher, int byCard, int byVoucher, int byPoints) {
        ReturnsDesk desk = new ReturnsDesk();
        desk.order(10, 1000);
        desk.add(0, 1000, 0);
        CHECK.is(what + ": pay", byCard, desk.pay(0, points, voucher));
        CHECK.is(what + ": card", byCard, desk.taken(0, ReturnsDesk.CARD));
        CHECK.is(what + ": voucher", byVoucher, desk.taken(0, ReturnsDesk.VOUCHER));
        CHECK.is(what + ": points", byPoints, desk.taken(0, ReturnsDesk.POINTS));
        CHECK.is(what + ": short by", 0, desk.isShortBy(0));
    }

    /** The day of the order is the one on which it is paid, not the one on which it was opened. */
    private static void payDay() {
        ReturnsDesk desk = new ReturnsDesk();
        desk.order(0, 0);
        desk.add(0, 100, 0);
        desk.pass(100);
        desk.pay(0, 0, 0);
        desk.pass(30);
        CHECK.is("30 days behind pay", true, desk.mayComeBack(0, 0, ReturnsDesk.CHANGE));
        desk.pass(1);
        CHECK.is("31 days behind pay", false, desk.mayComeBack(0, 0, ReturnsDesk.CHANGE));
    }

    private static void payArguments() {
        ReturnsDesk desk = new ReturnsDesk();
        desk.order(0, 0);
        desk.add(0, 10, 0);
        CHECK.fails("pay(-1, ..)", Check.INDEX, () -> desk.pay(-1, 0, 0));
        CHECK.fails("pay(1, ..)", Check.INDEX, () -> desk.pay(1, 0, 0));
        CHECK.fails("no order, wrong points", Check.INDEX, () -> desk.pay(1, -1, -1));
        CHECK.fails("points -1", Check.ARGUMENT, () -> desk.pay(0, -1, 0));
        CHECK.fails("points 1000001", Check.ARGUMENT, () -> desk.pay(0, 1000001, 0));
        CHECK.fails("voucher -1", Check.ARGUMENT, () -> desk.pay(0, 0, -1));
        CHECK.fails("voucher 1000001", Check.ARGUMENT, () -> desk.pay(0, 0, 1000001));
        CHECK.is("still open behind throws", 1, desk.add(0, 10, 0));
        CHECK.is("nothing is taken", 0, desk.taken(0, ReturnsDesk.CARD));
    }

    private static void payStates() {
        ReturnsDesk desk = new ReturnsDesk();
        desk.order(0, 0);
        CHECK.fails("pay without lines", Check.STATE, () -> desk.pay(0, 0, 0));
        CHECK.fails("wrong pay without lines", Check.ARGUMENT, () -> desk.pay(0, -1, 0));
        desk.add(0, 10, 0);
        CHECK.is("pay", 6, desk.pay(0, 4, 0));
        CHECK.fails("pay again", Check.STATE, () -> desk.pay(0, 10, 0));
        CHECK.fails("wrong pay again", Check.ARGUMENT, () -> desk.pay(0, 0, 1000001));
        CHECK.is("points are as they were", 4, desk.taken(0, ReturnsDesk.POINTS));
    }

    private static void objectsApart() {
        ReturnsDesk one = new ReturnsDesk();
        ReturnsDesk other = new ReturnsDesk();
        one.order(0, 0);
        one.pass(3);
        CHECK.is("orders of the other", 0, other.orders());
        CHECK.is("day of the other", 0, other.day());
    }
}
