/** The edges that the section "Orders" and the promises 1 to 5 name, a sentence a test. */
public final class OrdersEdgesTest {
    private static final Check CHECK = new Check("OrdersEdgesTest");
    private static final int MIN = Integer.MIN_VALUE;
    private static final int MAX = Integer.MAX_VALUE;

    public static void main(String[] args) {
        newObjectIsEmpty();
        dayZeroAtFirst();
        ordersAtMostThirty();
        ordersStayWhenAllCameBack();
        refusedIfThereAreThirty();
        percentRange();
        leastRange();
        noCoupon();
        leastSum();
        leastSumOutOfReach();
        leastSumOfNothing();
        couponRoundedDown();
        couponOfTheDearestOrder();
        linesAtMostEight();
        priceRange();
        kindRange();
        noLineForPaidOrEight();
        openUntilPaid();
        pointsAtMostThePrice();
        voucherAtMostTheRest();
        restByCard();
        pointsRange();
        voucherRange();
        payOnceAndWithLines();
        dayOfTheOrder();
        numberOfOrders();
        CHECK.end();
    }

    private static void newObjectIsEmpty() {
        CHECK.sentence("No orders; it is the day 0.");
        ReturnsDesk desk = new ReturnsDesk();
        CHECK.is("orders", 0, desk.orders());
        CHECK.is("day", 0, desk.day());
        CHECK.is("all answers", "day 0 stocks 0 0 0 orders 0", Desks.answers(desk));
        CHECK.fails("no order 0", Check.INDEX, () -> desk.price(0));
        CHECK.is("no waits", 0, desk.pass(400));
    }

    private static void dayZeroAtFirst() {
        CHECK.sentence("Days are numbered from 0; it is the day 0 at first.");
        ReturnsDesk desk = Desks.sold(100, ReturnsDesk.PLAIN);
        CHECK.is("a wait that begins on the day 0", 21, desk.ask(0, 0, ReturnsDesk.CHANGE));
        CHECK.is("day", 0, desk.day());
    }

    private static void ordersAtMostThirty() {
        CHECK.sentence("Orders are numbered from 0; there are at most 30.");
        ReturnsDesk desk = new ReturnsDesk();
        for (int i = 0; i < 30; i++) {
            CHECK.is("number", i, desk.order(0, 0));
            CHECK.is("its first line", 0, desk.add(i, 1 + i, ReturnsDesk.PLAIN));
        }
        CHECK.fails("one more", Check.STATE, () -> desk.order(0, 0));
        for (int i = 0; i < 30; i++) {
            CHECK.is("price of the order " + i, 1 + i, desk.price(i));
        }
    }

    private static void ordersStayWhenAllCameBack() {
        CHECK.sentence("Orders are numbered from 0; there are at most 30.");
        ReturnsDesk desk = new ReturnsDesk();
        for (int i = 0; i < 30; i++) {
            desk.order(0, 0);
            desk.add(i, 600, ReturnsDesk.PLAIN);
            desk.pay(i, 0, 0);
            desk.ask(i, 0, ReturnsDesk.FAULT);
            CHECK.is("all comes back", 600, desk.grade(i, 0, ReturnsDesk.NEW));
        }
        CHECK.fails("no number is free again", Check.STATE, () -> desk.order(0, 0));
        CHECK.is("orders", 30, desk.orders());
    }

    private static void refusedIfThereAreThirty() {
        CHECK.sentence("Throws `IllegalStateException` if there are 30");
        ReturnsDesk desk = new ReturnsDesk();
        for (int i = 0; i < 29; i++) {
            desk.order(0, 0);
        }
        CHECK.is("the 30th", 29, desk.order(90, 1000000));
        CHECK.fails("the 31st", Check.STATE, () -> desk.order(0, 0));
        CHECK.fails("the 31st again", Check.STATE, () -> desk.order(90, 1000000));
        CHECK.is("orders", 30, desk.orders());
        CHECK.fails("no order 30", Check.INDEX, () -> desk.price(30));
        CHECK.is("another desk has room", 0, new ReturnsDesk().order(0, 0));
    }

    private static void percentRange() {
        CHECK.sentence("`percent`: 0 to 90: of the coupon");
        for (int percent : new int[] {MIN, -90, -1, 91, 100, MAX}) {
            ReturnsDesk desk = new ReturnsDesk();
            CHECK.fails("percent " + percent, Check.ARGUMENT, () -> desk.order(percent, 0));
            CHECK.is("orders", 0, desk.orders());
        }
        int[][] rows = {{0, 1000}, {1, 990}, {89, 110}, {90, 100}};
        for (int[] row : rows) {
            ReturnsDesk desk = Desks.open(row[0], 0, ReturnsDesk.PLAIN, 1000);
            CHECK.is("1000 less " + row[0] + " percent", row[1], desk.price(0));
        }
    }

    private static void leastRange() {
        CHECK.sentence("`least`: 0 to 1000000: the least sum");
        for (int least : new int[] {MIN, -1000000, -1, 1000001, MAX}) {
            ReturnsDesk desk = new ReturnsDesk();
            CHECK.fails("least " + least, Check.ARGUMENT, () -> desk.order(10, least));
            CHECK.is("orders", 0, desk.orders());
        }
        for (int least : new int[] {0, 1, 999999, 1000000}) {
            CHECK.is("least " + least, 0, new ReturnsDesk().order(10, least));
        }
    }

    private static void noCoupon() {
        CHECK.sentence("without a coupon both are 0");
        CHECK.is("a cent", 1, Desks.open(0, 0, ReturnsDesk.PLAIN, 1).price(0));
        ReturnsDesk dear = Desks.open(0, 0, ReturnsDesk.PLAIN,
                100000, 100000, 100000, 100000, 100000, 100000, 100000, 100000);
        CHECK.is("the dearest", 800000, dear.price(0));
        CHECK.is("paid", 800000, dear.pay(0, 0, 0));
    }

    private static void leastSum() {
        CHECK.sentence("if the sum is at least the least sum");
        int[][] rows = {{2998, 2998}, {2999, 2999}, {3000, 1500}, {3001, 1501}};
        for (int[] row : rows) {
            ReturnsDesk desk = Desks.open(50, 3000, ReturnsDesk.PLAIN, row[0]);
            CHECK.is("open, sum " + row[0], row[1], desk.price(0));
            CHECK.is("paid, sum " + row[0], row[1], desk.pay(0, 0, 0));
            CHECK.is("behind it, sum " + row[0], row[1], desk.price(0));
        }
        ReturnsDesk desk = Desks.open(50, 3000, ReturnsDesk.PLAIN, 1000, 1999);
        CHECK.is("of all lines, a cent short", 2999, desk.price(0));
        desk.add(0, 1, ReturnsDesk.FINAL);
        CHECK.is("of all lines, with the cent", 1500, desk.price(0));
    }

    private static void leastSumOutOfReach() {
        CHECK.sentence("if the sum is at least the least sum");
        int[] most = {100000, 100000, 100000, 100000, 100000, 100000, 100000, 100000};
        CHECK.is("least 800000", 720000, Desks.open(10, 800000, ReturnsDesk.PLAIN, most).price(0));
        CHECK.is("least 800001", 800000, Desks.open(10, 800001, ReturnsDesk.PLAIN, most).price(0));
        CHECK.is("least 1000000", 800000, Desks.open(10, 1000000, ReturnsDesk.PLAIN, most).price(0));
    }

    private static void leastSumOfNothing() {
        CHECK.sentence("if the sum is at least the least sum");
        CHECK.is("no lines, least 0", 0, Desks.open(90, 0, ReturnsDesk.PLAIN).price(0));
        CHECK.is("no lines, least 1", 0, Desks.open(90, 1, ReturnsDesk.PLAIN).price(0));
        CHECK.is("10 cents, least 1", 1, Desks.open(90, 1, ReturnsDesk.PLAIN, 10).price(0));
    }

    private static void couponRoundedDown() {
        CHECK.sentence("Divisions are rounded down.");
        int[][] rows = {
            // percent, sum, price
            {1, 1, 1}, {1, 99, 99}, {1, 100, 99}, {1, 199, 198}, {1, 200, 198},
            {33, 3, 3}, {33, 4, 3}, {50, 1, 1}, {50, 2, 1}, {50, 3, 2},
            {90, 1, 1}, {90, 2, 1}, {90, 9, 1}, {90, 10, 1}, {90, 11, 2}, {90, 99999, 10000},
        };
        for (int[] row : rows) {
            ReturnsDesk desk = Desks.open(row[0], 0, ReturnsDesk.PLAIN, row[1]);
            CHECK.is(row[1] + " less " + row[0] + " percent", row[2], desk.price(0));
        }
        CHECK.is("of the sum, not of each line", 2, Desks.open(50, 0, ReturnsDesk.PLAIN, 1, 1, 1).price(0));
    }

    /** A product of sum and percent in a smaller type, or of all orders, would wrap around. */
    private static void couponOfTheDearestOrder() {
        CHECK.sentence("less that sum * percent / 100");
        ReturnsDesk desk = new ReturnsDesk();
        for (int order = 0; order < 30; order++) {
            desk.order(90, 800000);
            for (int line = 0; line < 8; line++) {
                desk.add(order, 100000, ReturnsDesk.PLAIN);
            }
            CHECK.is("order " + order, 80000, desk.price(order));
        }
    }

    private static void linesAtMostEight() {
        CHECK.sentence("An order has lines, numbered from 0, at most 8");
        ReturnsDesk desk = Desks.open(0, 0, ReturnsDesk.PLAIN);
        desk.order(0, 0);
        for (int line = 0; line < 8; line++) {
            CHECK.is("number", line, desk.add(0, 1 << line, ReturnsDesk.PLAIN));
        }
        CHECK.fails("the 9th", Check.STATE, () -> desk.add(0, 1, ReturnsDesk.PLAIN));
        CHECK.fails("no line 8", Check.INDEX, () -> desk.state(0, 8));
        CHECK.is("all eight count", 255, desk.price(0));
        CHECK.is("another order has room", 0, desk.add(1, 1, ReturnsDesk.PLAIN));
        CHECK.is("eight are paid", 255, desk.pay(0, 0, 0));
    }

    private static void priceRange() {
        CHECK.sentence("`price`: 1 to 100000");
        ReturnsDesk desk = Desks.open(0, 0, ReturnsDesk.PLAIN);
        for (int price : new int[] {MIN, -100000, -1, 0, 100001, MAX}) {
            CHECK.fails("price " + price, Check.ARGUMENT, () -> desk.add(0, price, ReturnsDesk.PLAIN));
        }
        CHECK.is("no line came of them", 0, desk.add(0, 1, ReturnsDesk.PLAIN));
        CHECK.is("the cheapest", 1, desk.price(0));
        CHECK.is("the next", 1, desk.add(0, 100000, ReturnsDesk.PLAIN));
        CHECK.is("and the dearest", 100001, desk.price(0));
    }

    private static void kindRange() {
        CHECK.sentence("`kind`: PLAIN, SEALED or FINAL");
        ReturnsDesk desk = Desks.open(0, 0, ReturnsDesk.PLAIN);
        for (int kind : new int[] {MIN, -1, 3, 4, MAX}) {
            CHECK.fails("kind " + kind, Check.ARGUMENT, () -> desk.add(0, 1, kind));
        }
        CHECK.is("PLAIN", 0, desk.add(0, 1, ReturnsDesk.PLAIN));
        CHECK.is("SEALED", 1, desk.add(0, 1, ReturnsDesk.SEALED));
        CHECK.is("FINAL", 2, desk.add(0, 1, ReturnsDesk.FINAL));
    }

    private static void noLineForPaidOrEight() {
        CHECK.sentence("Throws `IllegalStateException` if it is paid, or has 8 lines");
        ReturnsDesk seven = Desks.open(0, 0, ReturnsDesk.PLAIN, 1, 1, 1, 1, 1, 1, 1);
        CHECK.is("the 8th", 7, seven.add(0, 1, ReturnsDesk.PLAIN));
        CHECK.fails("the 9th", Check.STATE, () -> seven.add(0, 1, ReturnsDesk.PLAIN));
        seven.pay(0, 0, 0);
        CHECK.fails("paid and 8 lines", Check.STATE, () -> seven.add(0, 1, ReturnsDesk.PLAIN));
        ReturnsDesk one = Desks.sold(100, ReturnsDesk.PLAIN);
        CHECK.fails("paid", Check.STATE, () -> one.add(0, 1, ReturnsDesk.PLAIN));
        one.ask(0, 0, ReturnsDesk.FAULT);
        one.grade(0, 0, ReturnsDesk.NEW);
        CHECK.fails("paid, and its line BACK", Check.STATE, () -> one.add(0, 1, ReturnsDesk.PLAIN));
    }

    /** An order that takes no card is paid as well. */
    private static void openUntilPaid() {
        CHECK.sentence("An order is open until it is paid");
        ReturnsDesk desk = Desks.open(0, 0, ReturnsDesk.PLAIN, 10);
        desk.pass(400);
        CHECK.is("a line 400 days later", 1, desk.add(0, 20, ReturnsDesk.PLAIN));
        CHECK.is("it can't come back", false, desk.mayComeBack(0, 0, ReturnsDesk.FAULT));
        CHECK.is("by points alone", 0, desk.pay(0, 30, 0));
        CHECK.is("it can come back", true, desk.mayComeBack(0, 0, ReturnsDesk.FAULT));
        CHECK.fails("no more lines", Check.STATE, () -> desk.add(0, 1, ReturnsDesk.PLAIN));
        CHECK.fails("nor paid again", Check.STATE, () -> desk.pay(0, 0, 0));
    }

    private static void pointsAtMostThePrice() {
        CHECK.sentence("It is paid by points, as many as are told, but at most the price");
        pays(0, 0, 900, 0, 0);
        pays(1, 0, 899, 0, 1);
        pays(899, 0, 1, 0, 899);
        pays(900, 0, 0, 0, 900);
        pays(901, 0, 0, 0, 900);
        pays(1000, 0, 0, 0, 900);
        pays(1000000, 0, 0, 0, 900);
    }

    private static void voucherAtMostTheRest() {
        CHECK.sentence("then by a voucher likewise");
        pays(0, 1, 899, 1, 0);
        pays(0, 899, 1, 899, 0);
        pays(0, 900, 0, 900, 0);
        pays(0, 901, 0, 900, 0);
        pays(0, 1000000, 0, 900, 0);
        pays(400, 499, 1, 499, 400);
        pays(400, 500, 0, 500, 400);
        pays(400, 501, 0, 500, 400);
        pays(899, 1000000, 0, 1, 899);
        pays(900, 1, 0, 0, 900);
        pays(1000000, 1000000, 0, 0, 900);
    }

    private static void restByCard() {
        CHECK.sentence("Returns what is paid by card.");
        ReturnsDesk desk = Desks.open(0, 0, ReturnsDesk.PLAIN,
                100000, 100000, 100000, 100000, 100000, 100000, 100000, 100000);
        CHECK.is("a cent of the dearest", 1, desk.pay(0, 400000, 399999));
        CHECK.is("a cent", 1, Desks.open(0, 0, ReturnsDesk.PLAIN, 1).pay(0, 0, 0));
    }

    /** Pays 1000 less a coupon of 10 percent. */
    private static void pays(int points, int voucher, int byCard, int byVoucher, int byPoints) {
        String what = "points " + points + ", voucher " + voucher;
        ReturnsDesk desk = Desks.open(10, 1000, ReturnsDesk.PLAIN, 1000);
        CHECK.is(what + ": pay", byCard, desk.pay(0, points, voucher));
        CHECK.is(what + ": card", byCard, desk.taken(0, ReturnsDesk.CARD));
        CHECK.is(what + ": voucher", byVoucher, desk.taken(0, ReturnsDesk.VOUCHER));
        CHECK.is(what + ": points", byPoints, desk.taken(0, ReturnsDesk.POINTS));
    }

    private static void pointsRange() {
        CHECK.sentence("`points`: 0 to 1000000: how many cents by points at the most");
        ReturnsDesk desk = Desks.open(0, 0, ReturnsDesk.PLAIN, 10);
        for (int points : new int[] {MIN, -10, -1, 1000001, MAX}) {
            CHECK.fails("points " + points, Check.ARGUMENT, () -> desk.pay(0, points, 0));
        }
        CHECK.is("still open", false, desk.mayComeBack(0, 0, ReturnsDesk.FAULT));
        CHECK.is("points 1000000", 0, desk.pay(0, 1000000, 0));
    }

    private static void voucherRange() {
        CHECK.sentence("`voucher`: 0 to 1000000: how many cents by voucher at the most");
        ReturnsDesk desk = Desks.open(0, 0, ReturnsDesk.PLAIN, 10);
        for (int voucher : new int[] {MIN, -10, -1, 1000001, MAX}) {
            CHECK.fails("voucher " + voucher, Check.ARGUMENT, () -> desk.pay(0, 0, voucher));
            CHECK.fails("and points", Check.ARGUMENT, () -> desk.pay(0, 10, voucher));
        }
        CHECK.is("still open", false, desk.mayComeBack(0, 0, ReturnsDesk.FAULT));
        CHECK.is("voucher 1000000", 0, desk.pay(0, 0, 1000000));
    }

    private static void payOnceAndWithLines() {
        CHECK.sentence("Throws `IllegalStateException` if it is paid, or has no lines");
        ReturnsDesk desk = Desks.open(0, 0, ReturnsDesk.PLAIN);
        CHECK.fails("no lines", Check.STATE, () -> desk.pay(0, 0, 0));
        CHECK.fails("no lines, with points", Check.STATE, () -> desk.pay(0, 1000000, 1000000));
        desk.add(0, 1, ReturnsDesk.PLAIN);
        CHECK.is("one line", 1, desk.pay(0, 0, 0));
        CHECK.fails("again", Check.STATE, () -> desk.pay(0, 0, 0));
        desk.ask(0, 0, ReturnsDesk.FAULT);
        desk.grade(0, 0, ReturnsDesk.NEW);
        CHECK.fails("again, all BACK", Check.STATE, () -> desk.pay(0, 0, 0));
    }

    /** Not the day on which it was opened, nor that of its lines. */
    private static void dayOfTheOrder() {
        CHECK.sentence("The day of the order is the one on which it is paid.");
        ReturnsDesk desk = new ReturnsDesk();
        desk.order(0, 0);
        desk.pass(40);
        desk.add(0, 100, ReturnsDesk.SEALED);
        desk.pass(40);
        desk.pay(0, 0, 0);
        desk.pass(14);
        CHECK.is("14 days behind pay", true, desk.mayComeBack(0, 0, ReturnsDesk.CHANGE));
        CHECK.fails("a refused pay is none", Check.STATE, () -> desk.pay(0, 0, 0));
        desk.pass(1);
        CHECK.is("15 days behind pay", false, desk.mayComeBack(0, 0, ReturnsDesk.CHANGE));
    }

    private static void numberOfOrders() {
        CHECK.sentence("Returns the number of orders.");
        ReturnsDesk desk = new ReturnsDesk();
        for (int i = 0; i < 30; i++) {
            CHECK.is("orders", i, desk.orders());
            desk.order(0, 0);
        }
        CHECK.is("orders", 30, desk.orders());
        CHECK.fails("one more", Check.STATE, () -> desk.order(0, 0));
        CHECK.is("orders", 30, desk.orders());
    }
}
