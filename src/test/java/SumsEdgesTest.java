/** The edges that the section "What an order owes" and the promises 11 to 19 name, a sentence a test. */
public final class SumsEdgesTest {
    private static final Check CHECK = new Check("SumsEdgesTest");
    private static final int MIN = Integer.MIN_VALUE;
    private static final int MAX = Integer.MAX_VALUE;

    public static void main(String[] args) {
        pricedAnew();
        pricedAnewWithNothingLeft();
        feesAndCharges();
        chargesAtOnceByCard();
        refundIfAboveZero();
        refundOnlyWhenGraded();
        refundWays();
        refundOfCharges();
        shortIfBelowZero();
        pricePaidOrNot();
        allFees();
        mostFees();
        allCharges();
        mostCharges();
        wayRange();
        takenLessRefunded();
        allThatWasRefunded();
        shortIfPaid();
        stockRange();
        thingsInStock();
        daysRange();
        linesKeptAgain();
        dayAbove10000();
        theDay();
        CHECK.end();
    }

    /** Sends a line back that is faulty and NEW, which costs nothing; answers what is refunded. */
    private static int comesBack(ReturnsDesk desk, int line) {
        desk.ask(0, line, ReturnsDesk.FAULT);
        return desk.grade(0, line, ReturnsDesk.NEW);
    }

    private static void pricedAnew() {
        CHECK.sentence("the price of all of its lines that are not BACK, priced anew with the coupon");
        ReturnsDesk desk = Desks.paid(50, 1000, ReturnsDesk.PLAIN, 600, 399, 1, 1);
        CHECK.is("1001 less 500", 501, desk.taken(0, ReturnsDesk.CARD));
        CHECK.is("at the least sum", 1, comesBack(desk, 3));
        CHECK.is("price at the least sum", 500, desk.price(0));
        CHECK.is("a cent below it", 0, comesBack(desk, 2));
        CHECK.is("price below it", 999, desk.price(0));
        CHECK.is("the coupon is owed back", 499, desk.isShortBy(0));
        CHECK.is("and counts with the next", 0, comesBack(desk, 1));
        CHECK.is("short by", 100, desk.isShortBy(0));
        CHECK.is("all but that", 500, comesBack(desk, 0));
        CHECK.is("short by no more", 0, desk.isShortBy(0));
    }

    private static void pricedAnewWithNothingLeft() {
        CHECK.sentence("the price of all of its lines that are not BACK, priced anew with the coupon");
        for (int least : new int[] {0, 1, 100}) {
            ReturnsDesk desk = Desks.paid(90, least, ReturnsDesk.PLAIN, 100);
            CHECK.is("all of it", 10, comesBack(desk, 0));
            CHECK.is("price", 0, desk.price(0));
            CHECK.is("taken", 0, desk.taken(0, ReturnsDesk.CARD));
            CHECK.is("short by", 0, desk.isShortBy(0));
        }
    }

    private static void feesAndCharges() {
        CHECK.sentence("the fees and post fees; and the charges");
        ReturnsDesk desk = Desks.paid(0, 0, ReturnsDesk.PLAIN, 5000, 1000);
        desk.exchange(0, 1, ReturnsDesk.FAULT);
        desk.pass(21);
        CHECK.is("a charge is owed as it is taken", 0, desk.isShortBy(0));
        desk.exchange(0, 1, ReturnsDesk.CHANGE);
        CHECK.is("grade the exchange", 0, desk.grade(0, 1, ReturnsDesk.OPENED));
        CHECK.is("a fifth and the post", 700, desk.isShortBy(0));
        CHECK.is("less those", 4300, comesBack(desk, 0));
        CHECK.is("what is kept: price, fees and charge", 2700, desk.taken(0, ReturnsDesk.CARD));
    }

    private static void chargesAtOnceByCard() {
        CHECK.sentence("charges are taken at once, by card");
        ReturnsDesk desk = Desks.open(0, 0, ReturnsDesk.PLAIN, 100);
        desk.pay(0, 60, 40);
        desk.exchange(0, 0, ReturnsDesk.CHANGE);
        desk.pass(20);
        CHECK.is("card on the 20th day", 0, desk.taken(0, ReturnsDesk.CARD));
        desk.pass(1);
        CHECK.is("card on the 21st day", 100, desk.taken(0, ReturnsDesk.CARD));
        CHECK.is("voucher", 40, desk.taken(0, ReturnsDesk.VOUCHER));
        CHECK.is("points", 60, desk.taken(0, ReturnsDesk.POINTS));
        CHECK.is("short by", 0, desk.isShortBy(0));
        CHECK.is("refunded", 0, desk.refunded(0));
    }

    private static void refundIfAboveZero() {
        CHECK.sentence("the order is refunded what was taken less what it owes, if that is above 0");
        int[][] rows = {{498, 0, 2}, {499, 0, 1}, {500, 0, 0}, {501, 1, 0}, {502, 2, 0}};
        for (int[] row : rows) {
            String what = "price " + row[0] + " less the post";
            ReturnsDesk desk = Desks.sold(row[0], ReturnsDesk.PLAIN);
            desk.ask(0, 0, ReturnsDesk.CHANGE);
            CHECK.is(what + ": grade", row[1], desk.grade(0, 0, ReturnsDesk.NEW));
            CHECK.is(what + ": refunded", row[1], desk.refunded(0));
            CHECK.is(what + ": short by", row[2], desk.isShortBy(0));
            CHECK.is(what + ": card", row[0] - row[1], desk.taken(0, ReturnsDesk.CARD));
        }
    }

    private static void refundOnlyWhenGraded() {
        CHECK.sentence("When a parcel has been graded");
        ReturnsDesk desk = Desks.sold(1000, ReturnsDesk.PLAIN);
        desk.ask(0, 0, ReturnsDesk.FAULT);
        CHECK.is("not when it is asked", 0, desk.refunded(0));
        desk.pass(21);
        CHECK.is("nor on the 21st day", 0, desk.refunded(0));
        desk.exchange(0, 0, ReturnsDesk.FAULT);
        CHECK.is("nor when it is exchanged", 0, desk.refunded(0));
        CHECK.is("nothing for a thing that was exchanged", 0, desk.grade(0, 0, ReturnsDesk.NEW));
        CHECK.is("card", 1000, desk.taken(0, ReturnsDesk.CARD));
    }

    /** 100 by card, 300 by voucher, 200 by points. */
    private static void refundWays() {
        CHECK.sentence("by card, as far as what was taken by card goes, then by voucher, then by points");
        refunds(1, 99, 300, 200);
        refunds(99, 1, 300, 200);
        refunds(100, 0, 300, 200);
        refunds(101, 0, 299, 200);
        refunds(399, 0, 1, 200);
        refunds(400, 0, 0, 200);
        refunds(401, 0, 0, 199);
        refunds(599, 0, 0, 1);
    }

    private static void refunds(int sum, int card, int voucher, int points) {
        ReturnsDesk desk = Desks.open(0, 0, ReturnsDesk.PLAIN, sum, 600 - sum);
        CHECK.is("by card", 100, desk.pay(0, 200, 300));
        CHECK.is("refund " + sum, sum, comesBack(desk, 0));
        CHECK.is("card behind " + sum, card, desk.taken(0, ReturnsDesk.CARD));
        CHECK.is("voucher behind " + sum, voucher, desk.taken(0, ReturnsDesk.VOUCHER));
        CHECK.is("points behind " + sum, points, desk.taken(0, ReturnsDesk.POINTS));
        CHECK.is("the rest of " + sum, 600 - sum, comesBack(desk, 1));
        for (int way = 0; way < 3; way++) {
            CHECK.is("nothing is left of " + sum, 0, desk.taken(0, way));
        }
    }

    private static void refundOfCharges() {
        CHECK.sentence("by card, as far as what was taken by card goes, then by voucher, then by points");
        ReturnsDesk desk = Desks.open(0, 0, ReturnsDesk.PLAIN, 100, 100, 1);
        CHECK.is("none by card", 0, desk.pay(0, 1, 200));
        desk.exchange(0, 0, ReturnsDesk.FAULT);
        desk.pass(21);
        CHECK.is("by card what was charged", 100, comesBack(desk, 1));
        CHECK.is("voucher as it was", 200, desk.taken(0, ReturnsDesk.VOUCHER));
        CHECK.is("then by voucher", 1, comesBack(desk, 2));
        CHECK.is("card", 0, desk.taken(0, ReturnsDesk.CARD));
        CHECK.is("voucher", 199, desk.taken(0, ReturnsDesk.VOUCHER));
        CHECK.is("points as they were", 1, desk.taken(0, ReturnsDesk.POINTS));
    }

    private static void shortIfBelowZero() {
        CHECK.sentence("If it is below 0, nothing is refunded, and the order is short by that.");
        ReturnsDesk desk = Desks.open(0, 0, ReturnsDesk.PLAIN, 1, 1, 5000);
        desk.pay(0, 1, 1);
        desk.ask(0, 0, ReturnsDesk.CHANGE);
        CHECK.is("grade", 0, desk.grade(0, 0, ReturnsDesk.NEW));
        CHECK.is("short by", 499, desk.isShortBy(0));
        CHECK.is("refunded", 0, desk.refunded(0));
        CHECK.is("card", 5000, desk.taken(0, ReturnsDesk.CARD));
        CHECK.is("voucher", 1, desk.taken(0, ReturnsDesk.VOUCHER));
        CHECK.is("points", 1, desk.taken(0, ReturnsDesk.POINTS));
        desk.ask(0, 1, ReturnsDesk.CHANGE);
        CHECK.is("grade once more", 0, desk.grade(0, 1, ReturnsDesk.NEW));
        CHECK.is("short by more", 998, desk.isShortBy(0));
        CHECK.is("less what it was short by", 4002, comesBack(desk, 2));
        CHECK.is("short by no more", 0, desk.isShortBy(0));
    }

    private static void pricePaidOrNot() {
        CHECK.sentence("Returns the price of the lines of an order that are not BACK,"
                + " priced with the coupon, paid or not.");
        ReturnsDesk desk = Desks.open(25, 40, ReturnsDesk.PLAIN);
        CHECK.is("no lines", 0, desk.price(0));
        desk.add(0, 39, ReturnsDesk.PLAIN);
        CHECK.is("open, below the least sum", 39, desk.price(0));
        desk.add(0, 1, ReturnsDesk.PLAIN);
        CHECK.is("open, at it", 30, desk.price(0));
        desk.pay(0, 30, 0);
        CHECK.is("paid", 30, desk.price(0));
        desk.ask(0, 0, ReturnsDesk.FAULT);
        CHECK.is("ASKED", 30, desk.price(0));
        desk.exchange(0, 1, ReturnsDesk.FAULT);
        CHECK.is("EXCHANGED", 30, desk.price(0));
        desk.grade(0, 0, ReturnsDesk.NEW);
        CHECK.is("BACK", 1, desk.price(0));
        desk.pass(21);
        CHECK.is("KEPT and charged", 1, desk.price(0));
    }

    private static void allFees() {
        CHECK.sentence("Returns all fees and post fees of an order.");
        ReturnsDesk desk = Desks.ofEverySort();
        CHECK.is("one parcel: 1600 / 5 and the post", 820, desk.fees(0));
        CHECK.is("not paid", 0, desk.fees(1));
        CHECK.is("no lines", 0, desk.fees(2));
        desk.grade(0, 1, ReturnsDesk.SPOILED);
        desk.grade(0, 2, ReturnsDesk.OTHER);
        CHECK.is("1200 and the post, and 1400 with FAULT", 820 + 1700 + 1400, desk.fees(0));
    }

    /** As many and as dear parcels as 512 calls allow. */
    private static void mostFees() {
        CHECK.sentence("Returns all fees and post fees of an order.");
        ReturnsDesk desk = Desks.sold(100000, ReturnsDesk.PLAIN);
        for (int i = 1; i <= 250; i++) {
            desk.exchange(0, 0, ReturnsDesk.CHANGE);
            CHECK.is("parcel " + i, 0, desk.grade(0, 0, ReturnsDesk.OTHER));
        }
        CHECK.is("fees", 25125000, desk.fees(0));
        CHECK.is("short by", 25125000, desk.isShortBy(0));
        CHECK.is("nothing is in the stocks", 0, desk.stock(0) + desk.stock(1) + desk.stock(2));
    }

    private static void allCharges() {
        CHECK.sentence("Returns all charges of an order.");
        ReturnsDesk desk = Desks.ofEverySort();
        CHECK.is("none", 0, desk.charges(0));
        CHECK.is("day 25", 1, desk.pass(20));
        CHECK.is("none for the one asked back", 0, desk.charges(0));
        CHECK.is("day 26", 1, desk.pass(1));
        CHECK.is("the price of the exchanged one", 1400, desk.charges(0));
        CHECK.is("not paid", 0, desk.charges(1));
        CHECK.is("no lines", 0, desk.charges(2));
        comesBack(desk, 2);
        CHECK.is("a charge stays when the line is BACK", 1400, desk.charges(0));
    }

    /** As many and as dear exchanges as the span of 360 days allows: 18 times 8. */
    private static void mostCharges() {
        CHECK.sentence("Returns all charges of an order.");
        ReturnsDesk desk = Desks.paid(0, 0, ReturnsDesk.FINAL,
                100000, 100000, 100000, 100000, 100000, 100000, 100000, 100000);
        for (int day = 0; day <= 360; day += 21) {
            for (int line = 0; line < 8; line++) {
                CHECK.is("until", day + 21, desk.exchange(0, line, ReturnsDesk.FAULT));
            }
            CHECK.is("pass", 8, desk.pass(21));
        }
        CHECK.is("charges", 14400000, desk.charges(0));
        CHECK.is("card", 15200000, desk.taken(0, ReturnsDesk.CARD));
        CHECK.is("short by", 0, desk.isShortBy(0));
    }

    private static void wayRange() {
        CHECK.sentence("`way`: CARD, VOUCHER or POINTS");
        ReturnsDesk desk = Desks.open(0, 0, ReturnsDesk.PLAIN, 7);
        for (int way = 0; way < 3; way++) {
            CHECK.is("open, way " + way, 0, desk.taken(0, way));
        }
        desk.pay(0, 2, 1);
        for (int way : new int[] {MIN, -1, 3, 4, MAX}) {
            CHECK.fails("way " + way, Check.ARGUMENT, () -> desk.taken(0, way));
        }
        CHECK.is("CARD", 4, desk.taken(0, ReturnsDesk.CARD));
        CHECK.is("VOUCHER", 1, desk.taken(0, ReturnsDesk.VOUCHER));
        CHECK.is("POINTS", 2, desk.taken(0, ReturnsDesk.POINTS));
    }

    private static void takenLessRefunded() {
        CHECK.sentence("Returns what was taken of an order by a way of payment: paid and charged, less refunded.");
        ReturnsDesk desk = Desks.open(0, 0, ReturnsDesk.PLAIN, 100, 200);
        CHECK.is("card", 180, desk.pay(0, 120, 0));
        desk.exchange(0, 1, ReturnsDesk.FAULT);
        desk.pass(21);
        CHECK.is("charged", 380, desk.taken(0, ReturnsDesk.CARD));
        comesBack(desk, 0);
        CHECK.is("refunded", 280, desk.taken(0, ReturnsDesk.CARD));
        comesBack(desk, 1);
        CHECK.is("all but the charge", 80, desk.taken(0, ReturnsDesk.CARD));
        CHECK.is("points", 120, desk.taken(0, ReturnsDesk.POINTS));
    }

    private static void allThatWasRefunded() {
        CHECK.sentence("Returns all that was refunded of an order.");
        ReturnsDesk desk = Desks.open(0, 0, ReturnsDesk.PLAIN, 300, 200, 100);
        CHECK.is("open", 0, desk.refunded(0));
        desk.pay(0, 250, 250);
        CHECK.is("paid", 0, desk.refunded(0));
        comesBack(desk, 0);
        CHECK.is("by two ways", 300, desk.refunded(0));
        comesBack(desk, 1);
        CHECK.is("and two more", 500, desk.refunded(0));
        comesBack(desk, 2);
        CHECK.is("all", 600, desk.refunded(0));
        desk.order(0, 0);
        CHECK.is("of another order", 0, desk.refunded(1));
    }

    private static void shortIfPaid() {
        CHECK.sentence("what it owes less what was taken, if that is above 0; 0 if it is not paid");
        ReturnsDesk desk = Desks.open(0, 0, ReturnsDesk.PLAIN);
        CHECK.is("no lines", 0, desk.isShortBy(0));
        desk.add(0, 100000, ReturnsDesk.PLAIN);
        CHECK.is("open", 0, desk.isShortBy(0));
        desk.pay(0, 0, 0);
        CHECK.is("paid", 0, desk.isShortBy(0));
        desk.exchange(0, 0, ReturnsDesk.CHANGE);
        CHECK.is("EXCHANGED", 0, desk.isShortBy(0));
        desk.grade(0, 0, ReturnsDesk.NEW);
        CHECK.is("above 0", 500, desk.isShortBy(0));
        CHECK.is("the rest", 99500, comesBack(desk, 0));
        CHECK.is("at 0", 0, desk.isShortBy(0));
    }

    private static void stockRange() {
        CHECK.sentence("`stock`: 0 for NEW, 1 for second, 2 for waste");
        ReturnsDesk desk = new ReturnsDesk();
        for (int stock : new int[] {MIN, -1, 3, 4, MAX}) {
            CHECK.fails("stock " + stock, Check.ARGUMENT, () -> desk.stock(stock));
        }
        for (int stock = 0; stock < 3; stock++) {
            CHECK.is("stock " + stock, 0, desk.stock(stock));
        }
    }

    private static void thingsInStock() {
        CHECK.sentence("Returns how many things are in a stock.");
        ReturnsDesk desk = Desks.paid(0, 0, ReturnsDesk.PLAIN, 1, 1, 1, 1, 1, 1);
        int[] grades = {
            ReturnsDesk.NEW, ReturnsDesk.OPENED, ReturnsDesk.OPENED,
            ReturnsDesk.SPOILED, ReturnsDesk.SPOILED, ReturnsDesk.SPOILED,
        };
        for (int line = 0; line < grades.length; line++) {
            desk.ask(0, line, ReturnsDesk.CHANGE);
            desk.grade(0, line, grades[line]);
        }
        CHECK.is("NEW", 1, desk.stock(0));
        CHECK.is("second", 2, desk.stock(1));
        CHECK.is("waste", 3, desk.stock(2));
        desk.pass(400);
        CHECK.is("they stay", 2, desk.stock(1));
    }

    private static void daysRange() {
        CHECK.sentence("`days`: 1 to 400");
        ReturnsDesk desk = new ReturnsDesk();
        for (int days : new int[] {MIN, -400, -1, 0, 401, MAX}) {
            CHECK.fails("days " + days, Check.ARGUMENT, () -> desk.pass(days));
            CHECK.is("day", 0, desk.day());
        }
        desk.pass(1);
        CHECK.is("the least", 1, desk.day());
        desk.pass(400);
        CHECK.is("the most", 401, desk.day());
        CHECK.fails("no day is taken back", Check.ARGUMENT, () -> desk.pass(-1));
        CHECK.fails("nor stays", Check.ARGUMENT, () -> desk.pass(0));
    }

    private static void linesKeptAgain() {
        CHECK.sentence("Returns how many lines are KEPT again in them without a parcel.");
        CHECK.is("no orders", 0, new ReturnsDesk().pass(400));
        ReturnsDesk desk = Desks.ofEverySort();
        desk.ask(0, 0, ReturnsDesk.CHANGE);
        desk.exchange(0, 4, ReturnsDesk.FAULT);
        desk.pay(3, 0, 0);
        for (int line = 0; line < 8; line++) {
            desk.ask(3, line, ReturnsDesk.CHANGE);
        }
        desk.grade(3, 7, ReturnsDesk.NEW);
        CHECK.is("day 23", 0, desk.pass(18));
        CHECK.is("day 24, the one asked on the day 3", 1, desk.pass(1));
        CHECK.is("day 25", 0, desk.pass(1));
        CHECK.is("day 26, three and seven, but not the graded", 10, desk.pass(1));
        CHECK.is("day 27", 0, desk.pass(1));
    }

    private static void dayAbove10000() {
        CHECK.sentence("Throws `IllegalStateException` if the day would be above 10000");
        ReturnsDesk desk = new ReturnsDesk();
        Desks.passAll(desk, 9600);
        CHECK.is("9600 and 400 would do", 9600, desk.day());
        desk.pass(1);
        CHECK.fails("9601 and 400", Check.STATE, () -> desk.pass(400));
        CHECK.is("9601", 9601, desk.day());
        desk.pass(398);
        CHECK.fails("9999 and 2", Check.STATE, () -> desk.pass(2));
        CHECK.is("9999 and 1", 0, desk.pass(1));
        CHECK.is("the last day", 10000, desk.day());
        CHECK.fails("10000 and 1", Check.STATE, () -> desk.pass(1));
        CHECK.fails("10000 and 400", Check.STATE, () -> desk.pass(400));
        CHECK.is("the last day stays", 10000, desk.day());
        ReturnsDesk other = new ReturnsDesk();
        Desks.passAll(other, 9600);
        other.pass(400);
        CHECK.is("9600 and 400", 10000, other.day());
    }

    private static void theDay() {
        CHECK.sentence("Returns the day.");
        ReturnsDesk desk = new ReturnsDesk();
        CHECK.is("at first", 0, desk.day());
        desk.order(0, 0);
        desk.add(0, 1, ReturnsDesk.PLAIN);
        desk.pay(0, 0, 0);
        desk.ask(0, 0, ReturnsDesk.CHANGE);
        CHECK.is("no other call takes days", 0, desk.day());
        desk.pass(3);
        desk.pass(4);
        CHECK.is("all that passed", 7, desk.day());
    }
}
