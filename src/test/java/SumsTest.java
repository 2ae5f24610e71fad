/** Promises 11 to 19: price, fees, charges, taken, refunded, isShortBy, stock, pass, day. */
public final class SumsTest {
    private static final Check CHECK = new Check("SumsTest");

    public static void main(String[] args) {
        noSuchOrder();
        priceOfRest();
        feesAddUp();
        chargesAddUp();
        chargesAreRefundedByCard();
        takenArguments();
        refundedAddsUp();
        shortnessOfAnOpenOrder();
        shortnessAtAnyTime();
        stocksOfAllOrders();
        stockArguments();
        passCounts();
        passFarBeyondTheWait();
        passArguments();
        lastDay();
        CHECK.end();
    }

    /** A desk with one paid order of lines of these prices, all PLAIN. */
    private static ReturnsDesk sold(int percent, int least, int... prices) {
        ReturnsDesk desk = new ReturnsDesk();
        desk.order(percent, least);
        for (int price : prices) {
            desk.add(0, price, ReturnsDesk.PLAIN);
        }
        desk.pay(0, 0, 0);
        return desk;
    }

    private static void noSuchOrder() {
        ReturnsDesk desk = sold(0, 0, 10);
        int[] wrong = {Integer.MIN_VALUE, -1, 1, 29, 30, 31, Integer.MAX_VALUE};
        for (int order : wrong) {
            CHECK.fails("price(" + order + ")", Check.INDEX, () -> desk.price(order));
            CHECK.fails("fees(" + order + ")", Check.INDEX, () -> desk.fees(order));
            CHECK.fails("charges(" + order + ")", Check.INDEX, () -> desk.charges(order));
            CHECK.fails("taken(" + order + ", 0)", Check.INDEX, () -> desk.taken(order, 0));
            CHECK.fails("taken(" + order + ", 3)", Check.INDEX, () -> desk.taken(order, 3));
            CHECK.fails("refunded(" + order + ")", Check.INDEX, () -> desk.refunded(order));
            CHECK.fails("isShortBy(" + order + ")", Check.INDEX, () -> desk.isShortBy(order));
        }
    }

    private static void priceOfRest() {
        ReturnsDesk desk = sold(10, 100, 60, 45, 5);
        CHECK.is("all", 99, desk.price(0));
        desk.ask(0, 2, ReturnsDesk.FAULT);
        CHECK.is("ASKED counts", 99, desk.price(0));
        desk.grade(0, 2, ReturnsDesk.NEW);
        CHECK.is("105 less 10", 95, desk.price(0));
        desk.exchange(0, 1, ReturnsDesk.FAULT);
        CHECK.is("EXCHANGED counts", 95, desk.price(0));
        desk.grade(0, 1, ReturnsDesk.NEW);
        desk.ask(0, 1, ReturnsDesk.FAULT);
        desk.grade(0, 1, ReturnsDesk.NEW);
        CHECK.is("60 without the coupon", 60, desk.price(0));
        desk.ask(0, 0, ReturnsDesk.FAULT);
        desk.grade(0, 0, ReturnsDesk.NEW);
        CHECK.is("none left", 0, desk.price(0));
    }

    private static void feesAddUp() {
        ReturnsDesk desk = sold(0, 0, 1009, 1009);
        desk.ask(0, 0, ReturnsDesk.CHANGE);
        CHECK.is("none before the parcel", 0, desk.fees(0));
        desk.grade(0, 0, ReturnsDesk.OPENED);
        CHECK.is("201 and the post", 701, desk.fees(0));
        desk.exchange(0, 1, ReturnsDesk.FAULT);
        desk.grade(0, 1, ReturnsDesk.OTHER);
        CHECK.is("and another thing, without the post", 1710, desk.fees(0));
        desk.exchange(0, 1, ReturnsDesk.CHANGE);
        desk.pass(21);
        CHECK.is("no post fee without a parcel", 1710, desk.fees(0));
    }

    private static void chargesAddUp() {
        ReturnsDesk desk = sold(50, 0, 100, 300);
        desk.order(0, 0);
        desk.exchange(0, 0, ReturnsDesk.FAULT);
        desk.exchange(0, 1, ReturnsDesk.FAULT);
        CHECK.is("two in one pass", 2, desk.pass(21));
        CHECK.is("charges", 400, desk.charges(0));
        CHECK.is("of the other order", 0, desk.charges(1));
        desk.exchange(0, 0, ReturnsDesk.FAULT);
        desk.pass(21);
        CHECK.is("once more", 500, desk.charges(0));
        CHECK.is("card", 700, desk.taken(0, ReturnsDesk.CARD));
        CHECK.is("short by", 0, desk.isShortBy(0));
    }

    /** What was charged is taken by card, so a later refund goes there first. */
    private static void chargesAreRefundedByCard() {
        ReturnsDesk desk = new ReturnsDesk();
        desk.order(0, 0);
        desk.add(0, 100, ReturnsDesk.PLAIN);
        desk.add(0, 300, ReturnsDesk.PLAIN);
        desk.pay(0, 400, 0);
        desk.exchange(0, 0, ReturnsDesk.FAULT);
        desk.pass(21);
        CHECK.is("card behind the charge", 100, desk.taken(0, ReturnsDesk.CARD));
        desk.ask(0, 1, ReturnsDesk.FAULT);
        CHECK.is("refund", 300, desk.grade(0, 1, ReturnsDesk.NEW));
        CHECK.is("card", 0, desk.taken(0, ReturnsDesk.CARD));
        CHECK.is("points", 200, desk.taken(0, ReturnsDesk.POINTS));
        CHECK.is("charges are as they were", 100, desk.charges(0));
    }

    private static void takenArguments() {
        ReturnsDesk desk = sold(0, 0, 10);
        CHECK.is("CARD", 10, desk.taken(0, ReturnsDesk.CARD));
        CHECK.fails("taken(0, -1)", Check.ARGUMENT, () -> desk.taken(0, -1));
        CHECK.fails("taken(0, 3)", Check.ARGUMENT, () -> desk.taken(0, 3));
    }

    private static void refundedAddsUp() {
        ReturnsDesk desk = sold(0, 0, 1000, 2000, 10);
        CHECK.is("none", 0, desk.refunded(0));
        desk.ask(0, 0, ReturnsDesk.CHANGE);
        CHECK.is("none while ASKED", 0, desk.refunded(0));
        CHECK.is("the first", 500, desk.grade(0, 0, ReturnsDesk.NEW));
        desk.ask(0, 1, ReturnsDesk.CHANGE);
        CHECK.is("the second", 1500, desk.grade(0, 1, ReturnsDesk.NEW));
        CHECK.is("both", 2000, desk.refunded(0));
        desk.ask(0, 2, ReturnsDesk.CHANGE);
        CHECK.is("a third without", 0, desk.grade(0, 2, ReturnsDesk.NEW));
        CHECK.is("still both", 2000, desk.refunded(0));
    }

    private static void shortnessOfAnOpenOrder() {
        ReturnsDesk desk = new ReturnsDesk();
        desk.order(0, 0);
        desk.add(0, 100, ReturnsDesk.PLAIN);
        CHECK.is("open", 0, desk.isShortBy(0));
        CHECK.is("its price", 100, desk.price(0));
        CHECK.is("nothing taken", 0, desk.taken(0, ReturnsDesk.CARD));
    }

    private static void shortnessAtAnyTime() {
        ReturnsDesk desk = sold(90, 200, 100, 100);
        desk.ask(0, 0, ReturnsDesk.FAULT);
        CHECK.is("paid 20, the rest is 100", 0, desk.grade(0, 0, ReturnsDesk.NEW));
        CHECK.is("short by", 80, desk.isShortBy(0));
        desk.exchange(0, 1, ReturnsDesk.FAULT);
        desk.pass(21);
        CHECK.is("a charge is owed and taken", 80, desk.isShortBy(0));
        desk.ask(0, 1, ReturnsDesk.FAULT);
        CHECK.is("taken 120, owed 100", 20, desk.grade(0, 1, ReturnsDesk.NEW));
        CHECK.is("short by no more", 0, desk.isShortBy(0));
    }

    private static void stocksOfAllOrders() {
        ReturnsDesk desk = sold(0, 0, 10, 10, 10);
        desk.order(0, 0);
        desk.add(1, 10, ReturnsDesk.SEALED);
        desk.add(1, 10, ReturnsDesk.FINAL);
        desk.pay(1, 0, 0);
        desk.ask(0, 0, ReturnsDesk.CHANGE);
        CHECK.is("nothing comes by asking", 0, desk.stock(0));
        desk.grade(0, 0, ReturnsDesk.NEW);
        desk.ask(0, 1, ReturnsDesk.FAULT);
        desk.grade(0, 1, ReturnsDesk.NEW);
        desk.ask(0, 2, ReturnsDesk.CHANGE);
        desk.grade(0, 2, ReturnsDesk.OPENED);
        CHECK.is("NEW, whatever the reason", 2, desk.stock(0));
        CHECK.is("second", 1, desk.stock(1));
        CHECK.is("waste", 0, desk.stock(2));
        desk.ask(1, 0, ReturnsDesk.CHANGE);
        desk.grade(1, 0, ReturnsDesk.OPENED);
        desk.exchange(1, 1, ReturnsDesk.FAULT);
        desk.grade(1, 1, ReturnsDesk.OPENED);
        CHECK.is("second of both orders", 2, desk.stock(1));
        CHECK.is("OPENED with FAULT is waste", 1, desk.stock(2));
    }

    private static void stockArguments() {
        ReturnsDesk desk = new ReturnsDesk();
        CHECK.fails("stock(-1)", Check.ARGUMENT, () -> desk.stock(-1));
        CHECK.fails("stock(3)", Check.ARGUMENT, () -> desk.stock(3));
    }

    private static void passCounts() {
        ReturnsDesk desk = sold(0, 0, 10, 20, 30);
        desk.order(0, 0);
        desk.add(1, 40, ReturnsDesk.PLAIN);
        desk.pay(1, 0, 0);
        desk.ask(0, 0, ReturnsDesk.CHANGE);
        desk.pass(1);
        desk.exchange(0, 1, ReturnsDesk.FAULT);
        desk.ask(1, 0, ReturnsDesk.CHANGE);
        desk.ask(0, 2, ReturnsDesk.CHANGE);
        desk.grade(0, 2, ReturnsDesk.NEW);
        CHECK.is("19 more", 0, desk.pass(19));
        CHECK.is("the first", 1, desk.pass(1));
        CHECK.is("ASKED ends", ReturnsDesk.KEPT, desk.state(0, 0));
        CHECK.is("EXCHANGED goes on", ReturnsDesk.EXCHANGED, desk.state(0, 1));
        CHECK.is("of both orders, but not the graded", 2, desk.pass(1));
        CHECK.is("BACK stays", ReturnsDesk.BACK, desk.state(0, 2));
        CHECK.is("no more", 0, desk.pass(1));
        CHECK.is("day", 23, desk.day());
    }

    private static void passFarBeyondTheWait() {
        ReturnsDesk desk = sold(0, 0, 10, 20);
        desk.ask(0, 0, ReturnsDesk.CHANGE);
        desk.exchange(0, 1, ReturnsDesk.CHANGE);
        CHECK.is("pass(400)", 2, desk.pass(400));
        CHECK.is("charged once", 20, desk.charges(0));
        CHECK.is("pass(400) again", 0, desk.pass(400));
        CHECK.is("charged once still", 20, desk.charges(0));
    }

    private static void passArguments() {
        ReturnsDesk desk = new ReturnsDesk();
        int[] wrong = {Integer.MIN_VALUE, -1, 0, 401, Integer.MAX_VALUE};
        for (int days : wrong) {
            CHECK.fails("pass(" + days + ")", Check.ARGUMENT, () -> desk.pass(days));
        }
        CHECK.is("day behind throws", 0, desk.day());
        desk.pass(1);
        CHECK.is("pass(1)", 1, desk.day());
        desk.pass(400);
        CHECK.is("pass(400)", 401, desk.day());
    }

    private static void lastDay() {
        ReturnsDesk desk = new ReturnsDesk();
        for (int i = 0; i < 24; i++) {
            desk.pass(400);
        }
        desk.pass(379);
        desk.order(0, 0);
        desk.add(0, 10, ReturnsDesk.PLAIN);
        desk.pay(0, 0, 0);
        CHECK.is("ask on the day 9979", 10000, desk.ask(0, 0, ReturnsDesk.FAULT));
        CHECK.fails("pass(22) over the last day", Check.STATE, () -> desk.pass(22));
        CHECK.fails("pass(401) over the last day", Check.ARGUMENT, () -> desk.pass(401));
        CHECK.is("day behind throws", 9979, desk.day());
        CHECK.is("state behind throws", ReturnsDesk.ASKED, desk.state(0, 0));
        CHECK.is("up to the last day", 1, desk.pass(21));
        CHECK.is("day", 10000, desk.day());
        CHECK.fails("pass(1)", Check.STATE, () -> desk.pass(1));
        CHECK.fails("pass(0)", Check.ARGUMENT, () -> desk.pass(0));
        CHECK.is("day", 10000, desk.day());
    }
}
