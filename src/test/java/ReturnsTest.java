/** Promises 6 to 10: mayComeBack, ask, exchange, grade, state. */
public final class ReturnsTest {
    private static final Check CHECK = new Check("ReturnsTest");
    private static final int[] KINDS = {ReturnsDesk.PLAIN, ReturnsDesk.SEALED, ReturnsDesk.FINAL};

    public static void main(String[] args) {
        spans();
        mayComeBackByState();
        mayComeBackArguments();
        askDays();
        askArguments();
        askStates();
        exchangeDays();
        exchangeArguments();
        exchangeStates();
        gradeFeesAndStocks();
        gradeStates();
        gradeArguments();
        gradeKeepsReasonOfTheLastWait();
        couponFailsWithAReturn();
        refundWays();
        laterRefundAfterShortness();
        statesOfALine();
        stateArguments();
        CHECK.end();
    }

    /** A desk with one paid order of one line. */
    private static ReturnsDesk sold(int price, int kind) {
        ReturnsDesk desk = new ReturnsDesk();
        desk.order(0, 0);
        desk.add(0, price, kind);
        desk.pay(0, 0, 0);
        return desk;
    }

    private static void spans() {
        for (int kind : KINDS) {
            spanEnds(kind, ReturnsDesk.FAULT, 360);
        }
        spanEnds(ReturnsDesk.PLAIN, ReturnsDesk.CHANGE, 30);
        spanEnds(ReturnsDesk.SEALED, ReturnsDesk.CHANGE, 14);
        CHECK.is("a FINAL line, CHANGE, on its day", false,
                sold(100, ReturnsDesk.FINAL).mayComeBack(0, 0, ReturnsDesk.CHANGE));
    }

    private static void spanEnds(int kind, int reason, int span) {
        ReturnsDesk desk = sold(100, kind);
        String what = "kind " + kind + ", reason " + reason;
        CHECK.is(what + ", day 0", true, desk.mayComeBack(0, 0, reason));
        desk.pass(span);
        CHECK.is(what + ", last day", true, desk.mayComeBack(0, 0, reason));
        desk.pass(1);
        CHECK.is(what + ", behind it", false, desk.mayComeBack(0, 0, reason));
        CHECK.fails(what + ", ask", Check.STATE, () -> desk.ask(0, 0, reason));
        CHECK.fails(what + ", exchange", Check.STATE, () -> desk.exchange(0, 0, reason));
        CHECK.is(what + ", state", ReturnsDesk.KEPT, desk.state(0, 0));
    }

    private static void mayComeBackByState() {
        ReturnsDesk desk = new ReturnsDesk();
        desk.order(0, 0);
        desk.add(0, 100, ReturnsDesk.PLAIN);
        CHECK.is("not paid", false, desk.mayComeBack(0, 0, ReturnsDesk.FAULT));
        desk.pay(0, 0, 0);
        CHECK.is("paid", true, desk.mayComeBack(0, 0, ReturnsDesk.FAULT));
        desk.ask(0, 0, ReturnsDesk.FAULT);
        CHECK.is("ASKED", false, desk.mayComeBack(0, 0, ReturnsDesk.FAULT));
        desk.pass(21);
        CHECK.is("KEPT again", true, desk.mayComeBack(0, 0, ReturnsDesk.FAULT));
        desk.exchange(0, 0, ReturnsDesk.FAULT);
        CHECK.is("EXCHANGED", false, desk.mayComeBack(0, 0, ReturnsDesk.FAULT));
        desk.grade(0, 0, ReturnsDesk.NEW);
        CHECK.is("KEPT as the new thing", true, desk.mayComeBack(0, 0, ReturnsDesk.FAULT));
        desk.ask(0, 0, ReturnsDesk.FAULT);
        desk.grade(0, 0, ReturnsDesk.NEW);
        CHECK.is("BACK", false, desk.mayComeBack(0, 0, ReturnsDesk.FAULT));
    }

    private static void mayComeBackArguments() {
        ReturnsDesk desk = sold(100, ReturnsDesk.PLAIN);
        CHECK.fails("order -1", Check.INDEX, () -> desk.mayComeBack(-1, 0, 0) ? 1 : 0);
        CHECK.fails("order 1", Check.INDEX, () -> desk.mayComeBack(1, 0, 0) ? 1 : 0);
        CHECK.fails("line -1", Check.INDEX, () -> desk.mayComeBack(0, -1, 0) ? 1 : 0);
        CHECK.fails("line 1", Check.INDEX, () -> desk.mayComeBack(0, 1, 0) ? 1 : 0);
        CHECK.fails("line 8", Check.INDEX, () -> desk.mayComeBack(0, 8, 0) ? 1 : 0);
        CHECK.fails("no line, wrong reason", Check.INDEX, () -> desk.mayComeBack(0, 1, 2) ? 1 : 0);
        CHECK.fails("reason -1", Check.ARGUMENT, () -> desk.mayComeBack(0, 0, -1) ? 1 : 0);
        CHECK.fails("reason 2", Check.ARGUMENT, () -> desk.mayComeBack(0, 0, 2) ? 1 : 0);
        desk.ask(0, 0, 0);
        CHECK.fails("reason 2, line ASKED", Check.ARGUMENT, () -> desk.mayComeBack(0, 0, 2) ? 1 : 0);
    }

    private static void askDays() {
        ReturnsDesk desk = sold(100, ReturnsDesk.PLAIN);
        desk.pass(5);
        CHECK.is("ask on the day 5", 26, desk.ask(0, 0, ReturnsDesk.CHANGE));
        CHECK.is("state", ReturnsDesk.ASKED, desk.state(0, 0));
        CHECK.is("price while ASKED", 100, desk.price(0));
        CHECK.is("20 days", 0, desk.pass(20));
        CHECK.is("state on the 20th", ReturnsDesk.ASKED, desk.state(0, 0));
        CHECK.is("the 21st", 1, desk.pass(1));
        CHECK.is("state on the 21st", ReturnsDesk.KEPT, desk.state(0, 0));
        CHECK.is("no charges", 0, desk.charges(0));
        CHECK.is("no fees", 0, desk.fees(0));
        CHECK.is("card as it was", 100, desk.taken(0, ReturnsDesk.CARD));
    }

    private static void askArguments() {
        ReturnsDesk desk = sold(100, ReturnsDesk.PLAIN);
        CHECK.fails("ask order -1", Check.INDEX, () -> desk.ask(-1, 0, 0));
        CHECK.fails("ask order 1", Check.INDEX, () -> desk.ask(1, 0, 0));
        CHECK.fails("ask line -1", Check.INDEX, () -> desk.ask(0, -1, 0));
        CHECK.fails("ask line 1", Check.INDEX, () -> desk.ask(0, 1, 0));
        CHECK.fails("ask no line, wrong reason", Check.INDEX, () -> desk.ask(0, 1, 2));
        CHECK.fails("ask reason -1", Check.ARGUMENT, () -> desk.ask(0, 0, -1));
        CHECK.fails("ask reason 2", Check.ARGUMENT, () -> desk.ask(0, 0, 2));
        CHECK.is("state behind throws", ReturnsDesk.KEPT, desk.state(0, 0));
        desk.ask(0, 0, 0);
        CHECK.fails("ask reason 2 of ASKED", Check.ARGUMENT, () -> desk.ask(0, 0, 2));
    }

    private static void askStates() {
        ReturnsDesk desk = new ReturnsDesk();
        desk.order(0, 0);
        desk.add(0, 100, ReturnsDesk.PLAIN);
        CHECK.fails("ask, not paid", Check.STATE, () -> desk.ask(0, 0, 1));
        desk.add(0, 100, ReturnsDesk.FINAL);
        desk.pay(0, 0, 0);
        CHECK.fails("ask a FINAL line, CHANGE", Check.STATE, () -> desk.ask(0, 1, 0));
        CHECK.is("ask a FINAL line, FAULT", 21, desk.ask(0, 1, 1));
        desk.ask(0, 0, 0);
        desk.pass(3);
        CHECK.fails("ask again", Check.STATE, () -> desk.ask(0, 0, 1));
        CHECK.is("the wait is as it was", 0, desk.pass(17));
        CHECK.is("both waits end", 2, desk.pass(1));
        desk.ask(0, 0, 0);
        desk.grade(0, 0, ReturnsDesk.NEW);
        CHECK.fails("ask BACK", Check.STATE, () -> desk.ask(0, 0, 1));
    }

    private static void exchangeDays() {
        ReturnsDesk desk = new ReturnsDesk();
        desk.order(50, 0);
        desk.add(0, 101, ReturnsDesk.SEALED);
        desk.pay(0, 30, 0);
        desk.pass(2);
        CHECK.is("exchange on the day 2", 23, desk.exchange(0, 0, ReturnsDesk.CHANGE));
        CHECK.is("state", ReturnsDesk.EXCHANGED, desk.state(0, 0));
        CHECK.is("20 days", 0, desk.pass(20));
        CHECK.is("no charges yet", 0, desk.charges(0));
        CHECK.is("the 21st", 1, desk.pass(1));
        CHECK.is("state on the 21st", ReturnsDesk.KEPT, desk.state(0, 0));
        CHECK.is("charged by its price without the coupon", 101, desk.charges(0));
        CHECK.is("taken by card", 21 + 101, desk.taken(0, ReturnsDesk.CARD));
        CHECK.is("points as they were", 30, desk.taken(0, ReturnsDesk.POINTS));
        CHECK.is("not short", 0, desk.isShortBy(0));
        CHECK.is("price", 51, desk.price(0));
        CHECK.is("charged once only", 0, desk.pass(400));
        CHECK.is("charges", 101, desk.charges(0));
    }

    private static void exchangeArguments() {
        ReturnsDesk desk = sold(100, ReturnsDesk.PLAIN);
        CHECK.fails("exchange order -1", Check.INDEX, () -> desk.exchange(-1, 0, 0));
        CHECK.fails("exchange order 1", Check.INDEX, () -> desk.exchange(1, 0, 0));
        CHECK.fails("exchange line -1", Check.INDEX, () -> desk.exchange(0, -1, 0));
        CHECK.fails("exchange line 1", Check.INDEX, () -> desk.exchange(0, 1, 0));
        CHECK.fails("exchange no line, wrong reason", Check.INDEX, () -> desk.exchange(0, 1, 2));
        CHECK.fails("exchange reason -1", Check.ARGUMENT, () -> desk.exchange(0, 0, -1));
        CHECK.fails("exchange reason 2", Check.ARGUMENT, () -> desk.exchange(0, 0, 2));
        CHECK.is("state behind throws", ReturnsDesk.KEPT, desk.state(0, 0));
        desk.exchange(0, 0, 0);
        CHECK.fails("exchange reason 2 of EXCHANGED", Check.ARGUMENT, () -> desk.exchange(0, 0, 2));
    }

    private static void exchangeStates() {
        ReturnsDesk desk = new ReturnsDesk();
        desk.order(0, 0);
        desk.add(0, 100, ReturnsDesk.FINAL);
        CHECK.fails("exchange, not paid", Check.STATE, () -> desk.exchange(0, 0, 1));
        desk.pay(0, 0, 0);
        CHECK.fails("exchange a FINAL line, CHANGE", Check.STATE, () -> desk.exchange(0, 0, 0));
        CHECK.is("exchange a FINAL line, FAULT", 21, desk.exchange(0, 0, 1));
        CHECK.fails("exchange again", Check.STATE, () -> desk.exchange(0, 0, 1));
        CHECK.fails("ask EXCHANGED", Check.STATE, () -> desk.ask(0, 0, 1));
        desk.grade(0, 0, ReturnsDesk.NEW);
        CHECK.is("exchange the new thing", 21, desk.exchange(0, 0, 1));
    }

    private static void gradeFeesAndStocks() {
        int none = -1;
        int[][] rows = {
            // kind, reason, grade, fees of a line of 999, stock
            {0, 0, 0, 500, 0}, {0, 0, 1, 699, 1}, {0, 0, 2, 1499, 2}, {0, 0, 3, 1499, none},
            {1, 0, 0, 500, 0}, {1, 0, 1, 999, 1}, {1, 0, 2, 1499, 2}, {1, 0, 3, 1499, none},
            {0, 1, 0, 0, 0}, {0, 1, 1, 0, 2}, {0, 1, 2, 0, 2}, {0, 1, 3, 999, none},
            {1, 1, 0, 0, 0}, {1, 1, 1, 0, 2}, {1, 1, 2, 0, 2}, {1, 1, 3, 999, none},
            {2, 1, 0, 0, 0}, {2, 1, 1, 0, 2}, {2, 1, 2, 0, 2}, {2, 1, 3, 999, none},
        };
        for (int[] row : rows) {
            asked(row[0], row[1], row[2], row[3], row[4]);
            exchanged(row[0], row[1], row[2], row[3], row[4]);
        }
    }

    /** A line of 999 and one of 5001, with a coupon of 10 percent. */
    private static ReturnsDesk two(int kind) {
        ReturnsDesk desk = new ReturnsDesk();
        desk.order(10, 0);
        desk.add(0, 999, kind);
        desk.add(0, 5001, ReturnsDesk.PLAIN);
        CHECK.is("pay two lines", 5400, desk.pay(0, 0, 0));
        return desk;
    }

    private static void asked(int kind, int reason, int grade, int fees, int stock) {
        String what = "asked: kind " + kind + ", reason " + reason + ", grade " + grade;
        ReturnsDesk desk = two(kind);
        desk.ask(0, 0, reason);
        int surplus = 5400 - 4501 - fees;
        CHECK.is(what + ": grade", Math.max(surplus, 0), desk.grade(0, 0, grade));
        CHECK.is(what + ": state", ReturnsDesk.BACK, desk.state(0, 0));
        CHECK.is(what + ": price", 4501, desk.price(0));
        CHECK.is(what + ": fees", fees, desk.fees(0));
        CHECK.is(what + ": refunded", Math.max(surplus, 0), desk.refunded(0));
        CHECK.is(what + ": short by", Math.max(-surplus, 0), desk.isShortBy(0));
        stocked(what, desk, stock);
        CHECK.is(what + ": waits behind", 0, desk.pass(21));
    }

    private static void exchanged(int kind, int reason, int grade, int fees, int stock) {
        String what = "exchanged: kind " + kind + ", reason " + reason + ", grade " + grade;
        ReturnsDesk desk = two(kind);
        desk.exchange(0, 0, reason);
        CHECK.is(what + ": grade", 0, desk.grade(0, 0, grade));
        CHECK.is(what + ": state", ReturnsDesk.KEPT, desk.state(0, 0));
        CHECK.is(what + ": price", 5400, desk.price(0));
        CHECK.is(what + ": fees", fees, desk.fees(0));
        CHECK.is(what + ": short by", fees, desk.isShortBy(0));
        stocked(what, desk, stock);
        CHECK.is(what + ": waits behind", 0, desk.pass(21));
        CHECK.is(what + ": charges behind", 0, desk.charges(0));
    }

    private static void stocked(String what, ReturnsDesk desk, int stock) {
        for (int i = 0; i < 3; i++) {
            CHECK.is(what + ": stock " + i, i == stock ? 1 : 0, desk.stock(i));
        }
    }

    private static void gradeStates() {
        ReturnsDesk desk = new ReturnsDesk();
        desk.order(0, 0);
        desk.add(0, 100, ReturnsDesk.PLAIN);
        CHECK.fails("grade, not paid", Check.STATE, () -> desk.grade(0, 0, 0));
        desk.pay(0, 0, 0);
        CHECK.fails("grade KEPT", Check.STATE, () -> desk.grade(0, 0, 0));
        desk.ask(0, 0, 1);
        desk.pass(21);
        CHECK.fails("grade on the 21st day", Check.STATE, () -> desk.grade(0, 0, 0));
        desk.ask(0, 0, 1);
        desk.pass(20);
        CHECK.is("grade on the 20th day", 100, desk.grade(0, 0, 0));
        CHECK.fails("grade BACK", Check.STATE, () -> desk.grade(0, 0, 0));
        CHECK.is("one thing in stock", 1, desk.stock(0));
        CHECK.is("refunded once", 100, desk.refunded(0));
        CHECK.is("no fees", 0, desk.fees(0));
    }

    private static void gradeArguments() {
        ReturnsDesk desk = sold(100, ReturnsDesk.PLAIN);
        CHECK.fails("grade 4 of KEPT", Check.ARGUMENT, () -> desk.grade(0, 0, 4));
        desk.ask(0, 0, 0);
        CHECK.fails("grade order -1", Check.INDEX, () -> desk.grade(-1, 0, 0));
        CHECK.fails("grade order 1", Check.INDEX, () -> desk.grade(1, 0, 0));
        CHECK.fails("grade line -1", Check.INDEX, () -> desk.grade(0, -1, 0));
        CHECK.fails("grade line 1", Check.INDEX, () -> desk.grade(0, 1, 0));
        CHECK.fails("grade no line, wrong grade", Check.INDEX, () -> desk.grade(0, 1, 4));
        CHECK.fails("grade -1", Check.ARGUMENT, () -> desk.grade(0, 0, -1));
        CHECK.fails("grade 4", Check.ARGUMENT, () -> desk.grade(0, 0, 4));
        CHECK.is("state behind throws", ReturnsDesk.ASKED, desk.state(0, 0));
        CHECK.is("fees behind throws", 0, desk.fees(0));
    }

    private static void gradeKeepsReasonOfTheLastWait() {
        ReturnsDesk desk = sold(1000, ReturnsDesk.PLAIN);
        desk.ask(0, 0, ReturnsDesk.CHANGE);
        desk.pass(21);
        desk.exchange(0, 0, ReturnsDesk.FAULT);
        desk.grade(0, 0, ReturnsDesk.SPOILED);
        CHECK.is("no fees for FAULT", 0, desk.fees(0));
        desk.ask(0, 0, ReturnsDesk.CHANGE);
        CHECK.is("a fee for CHANGE", 300, desk.grade(0, 0, ReturnsDesk.OPENED));
        CHECK.is("200 and the post", 700, desk.fees(0));
    }

    private static void couponFailsWithAReturn() {
        ReturnsDesk desk = new ReturnsDesk();
        desk.order(20, 3000);
        desk.add(0, 2000, ReturnsDesk.PLAIN);
        desk.add(0, 1000, ReturnsDesk.PLAIN);
        desk.add(0, 1000, ReturnsDesk.PLAIN);
        CHECK.is("pay", 3200, desk.pay(0, 0, 0));
        desk.ask(0, 1, ReturnsDesk.FAULT);
        CHECK.is("the coupon holds at 3000", 800, desk.grade(0, 1, ReturnsDesk.NEW));
        desk.ask(0, 2, ReturnsDesk.FAULT);
        CHECK.is("it fails at 2000", 400, desk.grade(0, 2, ReturnsDesk.NEW));
        CHECK.is("price", 2000, desk.price(0));
        CHECK.is("refunded", 1200, desk.refunded(0));
    }

    /** By card as far as it goes, then by voucher, then by points. */
    private static void refundWays() {
        ReturnsDesk desk = new ReturnsDesk();
        desk.order(0, 0);
        for (int price : new int[] {100, 400, 350, 200}) {
            desk.add(0, price, ReturnsDesk.PLAIN);
        }
        CHECK.is("pay", 450, desk.pay(0, 300, 300));
        refunds(desk, 0, 100, 350, 300, 300);
        refunds(desk, 1, 400, 0, 250, 300);
        refunds(desk, 2, 350, 0, 0, 200);
        refunds(desk, 3, 200, 0, 0, 0);
        CHECK.is("all refunded", 1050, desk.refunded(0));
    }

    private static void refunds(ReturnsDesk desk, int line, int sum, int card, int voucher, int points) {
        desk.ask(0, line, ReturnsDesk.FAULT);
        CHECK.is("refund of line " + line, sum, desk.grade(0, line, ReturnsDesk.NEW));
        CHECK.is("card behind line " + line, card, desk.taken(0, ReturnsDesk.CARD));
        CHECK.is("voucher behind line " + line, voucher, desk.taken(0, ReturnsDesk.VOUCHER));
        CHECK.is("points behind line " + line, points, desk.taken(0, ReturnsDesk.POINTS));
    }

    private static void laterRefundAfterShortness() {
        ReturnsDesk desk = new ReturnsDesk();
        desk.order(0, 0);
        desk.add(0, 100, ReturnsDesk.PLAIN);
        desk.add(0, 1000, ReturnsDesk.PLAIN);
        desk.pay(0, 0, 0);
        desk.ask(0, 0, ReturnsDesk.CHANGE);
        CHECK.is("the post is dearer", 0, desk.grade(0, 0, ReturnsDesk.NEW));
        CHECK.is("short by", 400, desk.isShortBy(0));
        CHECK.is("card as it was", 1100, desk.taken(0, ReturnsDesk.CARD));
        desk.ask(0, 1, ReturnsDesk.FAULT);
        CHECK.is("less what it was short by", 600, desk.grade(0, 1, ReturnsDesk.NEW));
        CHECK.is("short by no more", 0, desk.isShortBy(0));
        CHECK.is("card", 500, desk.taken(0, ReturnsDesk.CARD));
    }

    private static void statesOfALine() {
        ReturnsDesk desk = sold(100, ReturnsDesk.PLAIN);
        desk.order(0, 0);
        desk.add(1, 50, ReturnsDesk.PLAIN);
        desk.add(1, 60, ReturnsDesk.PLAIN);
        CHECK.is("not paid", ReturnsDesk.KEPT, desk.state(1, 0));
        desk.pay(1, 0, 0);
        desk.ask(1, 0, 0);
        desk.exchange(1, 1, 0);
        CHECK.is("another order's", ReturnsDesk.KEPT, desk.state(0, 0));
        CHECK.is("ASKED", ReturnsDesk.ASKED, desk.state(1, 0));
        CHECK.is("EXCHANGED", ReturnsDesk.EXCHANGED, desk.state(1, 1));
        desk.grade(1, 0, 0);
        desk.grade(1, 1, 0);
        CHECK.is("BACK", ReturnsDesk.BACK, desk.state(1, 0));
        CHECK.is("KEPT", ReturnsDesk.KEPT, desk.state(1, 1));
    }

    private static void stateArguments() {
        ReturnsDesk desk = sold(100, ReturnsDesk.PLAIN);
        CHECK.fails("state(-1, 0)", Check.INDEX, () -> desk.state(-1, 0));
        CHECK.fails("state(1, 0)", Check.INDEX, () -> desk.state(1, 0));
        CHECK.fails("state(30, 0)", Check.INDEX, () -> desk.state(30, 0));
        CHECK.fails("state(0, -1)", Check.INDEX, () -> desk.state(0, -1));
        CHECK.fails("state(0, 1)", Check.INDEX, () -> desk.state(0, 1));
        CHECK.fails("state(0, 8)", Check.INDEX, () -> desk.state(0, 8));
    }
}
