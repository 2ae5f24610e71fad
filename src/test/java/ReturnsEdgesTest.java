/** The edges that the section "Returns" and the promises 6 to 10 name, a sentence a test. */
public final class ReturnsEdgesTest {
    private static final Check CHECK = new Check("ReturnsEdgesTest");
    private static final int MIN = Integer.MIN_VALUE;
    private static final int MAX = Integer.MAX_VALUE;

    private static final int[] KINDS = {ReturnsDesk.PLAIN, ReturnsDesk.SEALED, ReturnsDesk.FINAL};
    private static final int[] REASONS = {ReturnsDesk.CHANGE, ReturnsDesk.FAULT};
    private static final int[] GRADES = {
        ReturnsDesk.NEW, ReturnsDesk.OPENED, ReturnsDesk.SPOILED, ReturnsDesk.OTHER,
    };

    public static void main(String[] args) {
        keptAtFirst();
        faultSpan();
        changeSpan();
        sealedSpan();
        finalNever();
        spansOfANewThing();
        onlyPaidAndKept();
        reasonRange();
        askMayNot();
        exchangeMayNot();
        askedUntilTheDay();
        exchangedUntilTheDay();
        keptAgainOnThe21stDay();
        waitsByTheirOwnDays();
        waitBeyondTheSpan();
        waitBeyondTheLastDay();
        chargedOnThe21stDay();
        chargedByThePriceOfTheLine();
        backOrKept();
        gradeRange();
        gradeOnlyWaitedFor();
        faultBringsNoFees();
        feesByGrade();
        feesWithoutTheCoupon();
        postFeeOfEachParcel();
        newStock();
        secondStock();
        wasteStock();
        otherIntoNoStock();
        CHECK.end();
    }

    private static int send(ReturnsDesk desk, boolean ahead, int line, int reason) {
        return ahead ? desk.exchange(0, line, reason) : desk.ask(0, line, reason);
    }

    private static void keptAtFirst() {
        CHECK.sentence("at first KEPT");
        for (int kind : KINDS) {
            ReturnsDesk desk = Desks.open(0, 0, kind, 1, 1);
            CHECK.is("open, kind " + kind, ReturnsDesk.KEPT, desk.state(0, 0));
            desk.pay(0, 0, 0);
            CHECK.is("paid, kind " + kind, ReturnsDesk.KEPT, desk.state(0, 0));
            CHECK.is("its other line", ReturnsDesk.KEPT, desk.state(0, 1));
        }
    }

    /** On a day behind that of the order, which is paid on another one. */
    private static void onDay(int kind, int reason, int paidOn, int behind, boolean due) {
        String what = "kind " + kind + ", paid on " + paidOn + ", " + behind + " days behind";
        for (boolean ahead : new boolean[] {false, true}) {
            ReturnsDesk desk = new ReturnsDesk();
            Desks.passAll(desk, paidOn);
            desk.order(0, 0);
            desk.add(0, 100, kind);
            desk.pay(0, 0, 0);
            Desks.passAll(desk, behind);
            CHECK.is(what + ": mayComeBack", due, desk.mayComeBack(0, 0, reason));
            if (due) {
                CHECK.is(what + ": until", paidOn + behind + 21, send(desk, ahead, 0, reason));
            } else {
                CHECK.fails(what + ": refused", Check.STATE, () -> send(desk, ahead, 0, reason));
                CHECK.is(what + ": state", ReturnsDesk.KEPT, desk.state(0, 0));
            }
        }
    }

    private static void spanOf(int kind, int reason, int days) {
        for (int paidOn : new int[] {0, 1, 777, 9000}) {
            onDay(kind, reason, paidOn, 0, true);
            onDay(kind, reason, paidOn, days - 1, true);
            onDay(kind, reason, paidOn, days, true);
            onDay(kind, reason, paidOn, days + 1, false);
            onDay(kind, reason, paidOn, 1000, false);
        }
    }

    private static void faultSpan() {
        CHECK.sentence("for FAULT up to 360 days behind the day of the order");
        for (int kind : KINDS) {
            spanOf(kind, ReturnsDesk.FAULT, 360);
        }
    }

    private static void changeSpan() {
        CHECK.sentence("for CHANGE up to 30 days");
        spanOf(ReturnsDesk.PLAIN, ReturnsDesk.CHANGE, 30);
    }

    private static void sealedSpan() {
        CHECK.sentence("of a SEALED line up to 14 days");
        spanOf(ReturnsDesk.SEALED, ReturnsDesk.CHANGE, 14);
    }

    private static void finalNever() {
        CHECK.sentence("of a FINAL line never");
        for (int behind : new int[] {0, 1, 14, 15, 30, 31, 360, 361}) {
            onDay(ReturnsDesk.FINAL, ReturnsDesk.CHANGE, 0, behind, false);
            onDay(ReturnsDesk.FINAL, ReturnsDesk.CHANGE, 50, behind, false);
        }
    }

    /** A thing that was sent ahead stands in its line: days still count from the day of the order. */
    private static void spansOfANewThing() {
        CHECK.sentence("for CHANGE up to 30 days");
        ReturnsDesk desk = Desks.sold(100, ReturnsDesk.PLAIN);
        desk.pass(29);
        desk.exchange(0, 0, ReturnsDesk.CHANGE);
        desk.grade(0, 0, ReturnsDesk.NEW);
        desk.pass(1);
        CHECK.is("30 days", true, desk.mayComeBack(0, 0, ReturnsDesk.CHANGE));
        desk.pass(1);
        CHECK.is("31 days", false, desk.mayComeBack(0, 0, ReturnsDesk.CHANGE));
    }

    private static void onlyPaidAndKept() {
        CHECK.sentence("false if the order is not paid, or the line is not KEPT");
        ReturnsDesk desk = Desks.ofEverySort();
        for (int reason : REASONS) {
            CHECK.is("KEPT", true, desk.mayComeBack(0, 0, reason));
            CHECK.is("ASKED", false, desk.mayComeBack(0, 1, reason));
            CHECK.is("EXCHANGED", false, desk.mayComeBack(0, 2, reason));
            CHECK.is("BACK", false, desk.mayComeBack(0, 3, reason));
            CHECK.is("not paid", false, desk.mayComeBack(1, 0, reason));
        }
        desk.pay(1, 0, 0);
        CHECK.is("paid", true, desk.mayComeBack(1, 0, ReturnsDesk.CHANGE));
        CHECK.is("the 20th day", 0, desk.pass(18));
        CHECK.is("ASKED still", false, desk.mayComeBack(0, 1, ReturnsDesk.FAULT));
        CHECK.is("the 21st day", 1, desk.pass(1));
        CHECK.is("KEPT again", true, desk.mayComeBack(0, 1, ReturnsDesk.FAULT));
        CHECK.is("BACK for ever", false, desk.mayComeBack(0, 3, ReturnsDesk.FAULT));
    }

    private static void reasonRange() {
        CHECK.sentence("`reason`: CHANGE or FAULT");
        ReturnsDesk desk = Desks.paid(0, 0, ReturnsDesk.PLAIN, 1, 1, 1, 1);
        for (int reason : new int[] {MIN, -1, 2, 3, MAX}) {
            CHECK.fails("mayComeBack, " + reason, Check.ARGUMENT, () -> desk.mayComeBack(0, 0, reason) ? 1 : 0);
            CHECK.fails("ask, " + reason, Check.ARGUMENT, () -> desk.ask(0, 0, reason));
            CHECK.fails("exchange, " + reason, Check.ARGUMENT, () -> desk.exchange(0, 0, reason));
        }
        for (int reason : REASONS) {
            CHECK.is("mayComeBack, " + reason, true, desk.mayComeBack(0, reason, reason));
            CHECK.is("ask, " + reason, 21, desk.ask(0, reason, reason));
            CHECK.is("exchange, " + reason, 21, desk.exchange(0, 2 + reason, reason));
        }
    }

    private static void askMayNot() {
        CHECK.sentence("Throws `IllegalStateException` if it may not come back");
        ReturnsDesk desk = Desks.ofEverySort();
        for (int reason : REASONS) {
            CHECK.fails("ASKED", Check.STATE, () -> desk.ask(0, 1, reason));
            CHECK.fails("EXCHANGED", Check.STATE, () -> desk.ask(0, 2, reason));
            CHECK.fails("BACK", Check.STATE, () -> desk.ask(0, 3, reason));
            CHECK.fails("not paid", Check.STATE, () -> desk.ask(1, 0, reason));
        }
        CHECK.fails("FINAL, CHANGE", Check.STATE, () -> desk.ask(0, 4, ReturnsDesk.CHANGE));
        CHECK.is("FINAL, FAULT", 26, desk.ask(0, 4, ReturnsDesk.FAULT));
        CHECK.is("KEPT", 26, desk.ask(0, 0, ReturnsDesk.CHANGE));
    }

    private static void exchangeMayNot() {
        CHECK.sentence("Throws `IllegalStateException` if it may not come back");
        ReturnsDesk desk = Desks.ofEverySort();
        for (int reason : REASONS) {
            CHECK.fails("ASKED", Check.STATE, () -> desk.exchange(0, 1, reason));
            CHECK.fails("EXCHANGED", Check.STATE, () -> desk.exchange(0, 2, reason));
            CHECK.fails("BACK", Check.STATE, () -> desk.exchange(0, 3, reason));
            CHECK.fails("not paid", Check.STATE, () -> desk.exchange(1, 0, reason));
        }
        CHECK.fails("FINAL, CHANGE", Check.STATE, () -> desk.exchange(0, 4, ReturnsDesk.CHANGE));
        CHECK.is("FINAL, FAULT", 26, desk.exchange(0, 4, ReturnsDesk.FAULT));
        CHECK.is("KEPT", 26, desk.exchange(0, 0, ReturnsDesk.CHANGE));
    }

    private static void askedUntilTheDay() {
        CHECK.sentence("Returns the day on which it is KEPT again without a parcel.");
        untilTheDay(false, ReturnsDesk.ASKED);
    }

    private static void exchangedUntilTheDay() {
        CHECK.sentence("Returns the day on which it is charged once more without a parcel.");
        untilTheDay(true, ReturnsDesk.EXCHANGED);
    }

    private static void untilTheDay(boolean ahead, int waitState) {
        for (int from : new int[] {0, 1, 30}) {
            ReturnsDesk desk = Desks.sold(100, ReturnsDesk.PLAIN);
            Desks.passAll(desk, from);
            int until = send(desk, ahead, 0, ReturnsDesk.CHANGE);
            CHECK.is("told on the day " + from, from + 21, until);
            desk.pass(until - 1 - from);
            CHECK.is("the day before: state", waitState, desk.state(0, 0));
            CHECK.is("the day before: charges", 0, desk.charges(0));
            desk.pass(1);
            CHECK.is("the day: state", ReturnsDesk.KEPT, desk.state(0, 0));
            CHECK.is("the day: charges", ahead ? 100 : 0, desk.charges(0));
        }
    }

    private static void keptAgainOnThe21stDay() {
        CHECK.sentence("on the 21st day behind the day on which it was asked or exchanged it is KEPT again");
        for (boolean ahead : new boolean[] {false, true}) {
            for (int first : new int[] {1, 19, 20, 21, 22, 400}) {
                ReturnsDesk desk = Desks.sold(100, ReturnsDesk.PLAIN);
                send(desk, ahead, 0, ReturnsDesk.FAULT);
                boolean isOver = first >= 21;
                CHECK.is("pass " + first, isOver ? 1 : 0, desk.pass(first));
                int due = isOver ? ReturnsDesk.KEPT : ahead ? ReturnsDesk.EXCHANGED : ReturnsDesk.ASKED;
                CHECK.is("state behind " + first, due, desk.state(0, 0));
                CHECK.is("pass the rest", isOver ? 0 : 1, desk.pass(21));
                CHECK.is("state behind the rest", ReturnsDesk.KEPT, desk.state(0, 0));
            }
            ReturnsDesk desk = Desks.sold(100, ReturnsDesk.PLAIN);
            send(desk, ahead, 0, ReturnsDesk.FAULT);
            for (int day = 1; day <= 60; day++) {
                CHECK.is("day " + day, day == 21 ? 1 : 0, desk.pass(1));
            }
        }
    }

    private static void waitsByTheirOwnDays() {
        CHECK.sentence("A line that is asked back or exchanged is waited for for 21 days");
        ReturnsDesk desk = Desks.paid(0, 0, ReturnsDesk.PLAIN, 100, 200);
        desk.ask(0, 0, ReturnsDesk.FAULT);
        desk.pass(1);
        desk.exchange(0, 1, ReturnsDesk.FAULT);
        CHECK.is("day 20", 0, desk.pass(19));
        CHECK.is("day 21", 1, desk.pass(1));
        CHECK.is("the first", ReturnsDesk.KEPT, desk.state(0, 0));
        CHECK.is("the second", ReturnsDesk.EXCHANGED, desk.state(0, 1));
        CHECK.is("asked again on the day 21", 42, desk.ask(0, 0, ReturnsDesk.FAULT));
        CHECK.is("day 22", 1, desk.pass(1));
        CHECK.is("day 41", 0, desk.pass(19));
        CHECK.is("waited for still", ReturnsDesk.ASKED, desk.state(0, 0));
        CHECK.is("day 42", 1, desk.pass(1));
    }

    /** Asked on the last day of the span, it is waited for all the same, and then never again. */
    private static void waitBeyondTheSpan() {
        CHECK.sentence("A line that is asked back or exchanged is waited for for 21 days");
        ReturnsDesk desk = Desks.paid(0, 0, ReturnsDesk.SEALED, 1000, 1000);
        desk.pass(14);
        desk.ask(0, 0, ReturnsDesk.CHANGE);
        desk.ask(0, 1, ReturnsDesk.CHANGE);
        desk.pass(20);
        CHECK.is("graded on the 34th day", 500, desk.grade(0, 0, ReturnsDesk.NEW));
        CHECK.is("the other", 1, desk.pass(1));
        CHECK.is("never again for CHANGE", false, desk.mayComeBack(0, 1, ReturnsDesk.CHANGE));
        CHECK.is("but for FAULT", true, desk.mayComeBack(0, 1, ReturnsDesk.FAULT));
    }

    private static void waitBeyondTheLastDay() {
        CHECK.sentence("Returns the day on which it is KEPT again without a parcel.");
        ReturnsDesk desk = new ReturnsDesk();
        Desks.passAll(desk, 10000);
        desk.order(0, 0);
        desk.add(0, 100, ReturnsDesk.PLAIN);
        desk.add(0, 100, ReturnsDesk.PLAIN);
        desk.pay(0, 0, 0);
        CHECK.is("ask on the day 10000", 10021, desk.ask(0, 0, ReturnsDesk.FAULT));
        CHECK.is("exchange on the day 10000", 10021, desk.exchange(0, 1, ReturnsDesk.FAULT));
        CHECK.fails("no day behind it", Check.STATE, () -> desk.pass(21));
        CHECK.is("ASKED still", ReturnsDesk.ASKED, desk.state(0, 0));
        CHECK.is("its parcel may come", 100, desk.grade(0, 0, ReturnsDesk.NEW));
    }

    private static void chargedOnThe21stDay() {
        CHECK.sentence("an exchanged one is charged once more then");
        ReturnsDesk desk = Desks.paid(0, 0, ReturnsDesk.PLAIN, 100, 200, 400);
        desk.exchange(0, 0, ReturnsDesk.FAULT);
        desk.ask(0, 1, ReturnsDesk.FAULT);
        desk.exchange(0, 2, ReturnsDesk.FAULT);
        CHECK.is("none at once", 0, desk.charges(0));
        desk.pass(20);
        CHECK.is("none on the 20th day", 0, desk.charges(0));
        desk.grade(0, 2, ReturnsDesk.SPOILED);
        desk.pass(1);
        CHECK.is("neither the one asked back nor the graded", 100, desk.charges(0));
        CHECK.is("by card", 800, desk.taken(0, ReturnsDesk.CARD));
        Desks.passAll(desk, 300);
        CHECK.is("once", 100, desk.charges(0));
        desk.exchange(0, 0, ReturnsDesk.FAULT);
        desk.pass(21);
        CHECK.is("and once for the next exchange", 200, desk.charges(0));
    }

    private static void chargedByThePriceOfTheLine() {
        CHECK.sentence("the charges of the order grow by the price of the line");
        for (int price : new int[] {1, 2, 99999, 100000}) {
            ReturnsDesk desk = Desks.paid(90, 0, ReturnsDesk.SEALED, price, 50000);
            int paid = desk.taken(0, ReturnsDesk.CARD);
            desk.order(0, 0);
            desk.exchange(0, 0, ReturnsDesk.CHANGE);
            desk.pass(21);
            CHECK.is("charges, price " + price, price, desk.charges(0));
            CHECK.is("card, price " + price, paid + price, desk.taken(0, ReturnsDesk.CARD));
            CHECK.is("no fees", 0, desk.fees(0));
            CHECK.is("of another order", 0, desk.charges(1));
        }
    }

    private static void backOrKept() {
        CHECK.sentence("A line that was asked back is BACK then; one that was exchanged is KEPT");
        for (int grade : GRADES) {
            ReturnsDesk desk = Desks.paid(0, 0, ReturnsDesk.PLAIN, 700, 800, 900);
            desk.ask(0, 0, ReturnsDesk.FAULT);
            desk.exchange(0, 1, ReturnsDesk.FAULT);
            desk.grade(0, 0, grade);
            CHECK.is("grade " + grade + ", the other waits", ReturnsDesk.EXCHANGED, desk.state(0, 1));
            desk.grade(0, 1, grade);
            CHECK.is("grade " + grade + ", asked", ReturnsDesk.BACK, desk.state(0, 0));
            CHECK.is("grade " + grade + ", exchanged", ReturnsDesk.KEPT, desk.state(0, 1));
            CHECK.is("no waits are left", 0, desk.pass(21));
            CHECK.is("BACK stays", ReturnsDesk.BACK, desk.state(0, 0));
            CHECK.is("nothing is charged", 0, desk.charges(0));
        }
    }

    private static void gradeRange() {
        CHECK.sentence("`grade`: NEW, OPENED, SPOILED or OTHER");
        ReturnsDesk desk = Desks.paid(0, 0, ReturnsDesk.PLAIN, 1, 1, 1, 1);
        for (int grade : GRADES) {
            desk.exchange(0, grade, ReturnsDesk.FAULT);
        }
        for (int grade : new int[] {MIN, -1, 4, 5, MAX}) {
            CHECK.fails("grade " + grade, Check.ARGUMENT, () -> desk.grade(0, 0, grade));
        }
        for (int grade : GRADES) {
            CHECK.is("grade " + grade, 0, desk.grade(0, grade, grade));
        }
    }

    private static void gradeOnlyWaitedFor() {
        CHECK.sentence("Throws `IllegalStateException` if the line is not waited for");
        for (boolean ahead : new boolean[] {false, true}) {
            ReturnsDesk desk = Desks.open(0, 0, ReturnsDesk.PLAIN, 100);
            CHECK.fails("not paid", Check.STATE, () -> desk.grade(0, 0, ReturnsDesk.NEW));
            desk.pay(0, 0, 0);
            CHECK.fails("KEPT at first", Check.STATE, () -> desk.grade(0, 0, ReturnsDesk.NEW));
            send(desk, ahead, 0, ReturnsDesk.FAULT);
            desk.pass(21);
            CHECK.fails("the 21st day", Check.STATE, () -> desk.grade(0, 0, ReturnsDesk.NEW));
            send(desk, ahead, 0, ReturnsDesk.FAULT);
            desk.pass(20);
            CHECK.is("the 20th day", ahead ? 0 : 100, desk.grade(0, 0, ReturnsDesk.NEW));
            CHECK.fails("graded already", Check.STATE, () -> desk.grade(0, 0, ReturnsDesk.NEW));
            CHECK.is("one thing came", 1, desk.stock(0));
        }
    }

    /** What one parcel brings to an order with the coupon of this percent. */
    private static int fee(int percent, int price, int kind, int reason, int grade, boolean ahead) {
        ReturnsDesk desk = Desks.paid(percent, 0, kind, price, 100000);
        send(desk, ahead, 0, reason);
        desk.grade(0, 0, grade);
        return desk.fees(0);
    }

    private static void faultBringsNoFees() {
        CHECK.sentence("Grades bring fees, unless the reason is FAULT and the grade is not OTHER");
        for (int kind : KINDS) {
            for (boolean ahead : new boolean[] {false, true}) {
                CHECK.is("NEW", 0, fee(0, 10, kind, ReturnsDesk.FAULT, ReturnsDesk.NEW, ahead));
                CHECK.is("OPENED", 0, fee(0, 10, kind, ReturnsDesk.FAULT, ReturnsDesk.OPENED, ahead));
                CHECK.is("SPOILED", 0, fee(0, 10, kind, ReturnsDesk.FAULT, ReturnsDesk.SPOILED, ahead));
                CHECK.is("OTHER", 10, fee(0, 10, kind, ReturnsDesk.FAULT, ReturnsDesk.OTHER, ahead));
            }
        }
    }

    private static void feesByGrade() {
        CHECK.sentence("for NEW none, for OPENED price / 5, but of a SEALED line price / 2,"
                + " for SPOILED and OTHER the price of the line");
        for (int price : new int[] {1, 2, 3, 4, 5, 6, 9, 10, 11, 99999, 100000}) {
            int fifth = (price - price % 5) / 5;
            int half = (price - price % 2) / 2;
            for (boolean ahead : new boolean[] {false, true}) {
                feesAre(price, ReturnsDesk.PLAIN, ahead, 0, fifth, price, price);
                feesAre(price, ReturnsDesk.SEALED, ahead, 0, half, price, price);
            }
        }
    }

    private static void feesAre(int price, int kind, boolean ahead, int... due) {
        for (int grade : GRADES) {
            String what = "price " + price + ", kind " + kind + ", grade " + grade;
            CHECK.is(what, 500 + due[grade], fee(0, price, kind, ReturnsDesk.CHANGE, grade, ahead));
        }
    }

    private static void feesWithoutTheCoupon() {
        CHECK.sentence("all by its price without the coupon");
        int change = ReturnsDesk.CHANGE;
        CHECK.is("OPENED", 700, fee(90, 1000, ReturnsDesk.PLAIN, change, ReturnsDesk.OPENED, false));
        CHECK.is("OPENED, SEALED", 1000, fee(90, 1000, ReturnsDesk.SEALED, change, ReturnsDesk.OPENED, false));
        CHECK.is("SPOILED", 1500, fee(90, 1000, ReturnsDesk.PLAIN, change, ReturnsDesk.SPOILED, false));
        CHECK.is("OTHER", 1000, fee(90, 1000, ReturnsDesk.FINAL, ReturnsDesk.FAULT, ReturnsDesk.OTHER, true));
    }

    private static void postFeeOfEachParcel() {
        CHECK.sentence("The post fee of 500 is owed for each parcel with the reason CHANGE.");
        ReturnsDesk desk = Desks.paid(0, 0, ReturnsDesk.PLAIN, 1000, 1000);
        desk.exchange(0, 0, ReturnsDesk.CHANGE);
        CHECK.is("not before the parcel", 0, desk.fees(0));
        desk.grade(0, 0, ReturnsDesk.NEW);
        CHECK.is("the first", 500, desk.fees(0));
        desk.exchange(0, 0, ReturnsDesk.CHANGE);
        desk.grade(0, 0, ReturnsDesk.NEW);
        CHECK.is("the second of the same line", 1000, desk.fees(0));
        desk.ask(0, 0, ReturnsDesk.FAULT);
        desk.grade(0, 0, ReturnsDesk.NEW);
        CHECK.is("none for FAULT", 1000, desk.fees(0));
        desk.ask(0, 1, ReturnsDesk.CHANGE);
        desk.pass(21);
        CHECK.is("none without a parcel", 1000, desk.fees(0));
        desk.exchange(0, 1, ReturnsDesk.FAULT);
        desk.grade(0, 1, ReturnsDesk.OTHER);
        CHECK.is("nor for another thing with FAULT", 2000, desk.fees(0));
    }

    private static void stocksAre(int kind, int reason, int grade, int due) {
        for (boolean ahead : new boolean[] {false, true}) {
            ReturnsDesk desk = Desks.sold(100, kind);
            send(desk, ahead, 0, reason);
            desk.grade(0, 0, grade);
            for (int stock = 0; stock < 3; stock++) {
                String what = "kind " + kind + ", reason " + reason + ", grade " + grade + ", stock " + stock;
                CHECK.is(what, stock == due ? 1 : 0, desk.stock(stock));
            }
        }
    }

    private static void newStock() {
        CHECK.sentence("NEW (all that are graded so, whatever the reason)");
        stocksAre(ReturnsDesk.PLAIN, ReturnsDesk.CHANGE, ReturnsDesk.NEW, 0);
        stocksAre(ReturnsDesk.SEALED, ReturnsDesk.CHANGE, ReturnsDesk.NEW, 0);
        for (int kind : KINDS) {
            stocksAre(kind, ReturnsDesk.FAULT, ReturnsDesk.NEW, 0);
        }
    }

    private static void secondStock() {
        CHECK.sentence("second (OPENED with the reason CHANGE)");
        stocksAre(ReturnsDesk.PLAIN, ReturnsDesk.CHANGE, ReturnsDesk.OPENED, 1);
        stocksAre(ReturnsDesk.SEALED, ReturnsDesk.CHANGE, ReturnsDesk.OPENED, 1);
    }

    private static void wasteStock() {
        CHECK.sentence("waste (all others)");
        stocksAre(ReturnsDesk.PLAIN, ReturnsDesk.CHANGE, ReturnsDesk.SPOILED, 2);
        stocksAre(ReturnsDesk.SEALED, ReturnsDesk.CHANGE, ReturnsDesk.SPOILED, 2);
        for (int kind : KINDS) {
            stocksAre(kind, ReturnsDesk.FAULT, ReturnsDesk.OPENED, 2);
            stocksAre(kind, ReturnsDesk.FAULT, ReturnsDesk.SPOILED, 2);
        }
    }

    private static void otherIntoNoStock() {
        CHECK.sentence("those graded OTHER into none");
        stocksAre(ReturnsDesk.PLAIN, ReturnsDesk.CHANGE, ReturnsDesk.OTHER, -1);
        stocksAre(ReturnsDesk.SEALED, ReturnsDesk.CHANGE, ReturnsDesk.OTHER, -1);
        for (int kind : KINDS) {
            stocksAre(kind, ReturnsDesk.FAULT, ReturnsDesk.OTHER, -1);
        }
    }
}
