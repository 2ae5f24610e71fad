/**
 * A returns desk: orders with lines, a coupon with a least sum that may fail, ways of payment,
 * spans by kind, reasons, exchanges sent ahead, parcels that are graded, and refunds that are
 * found by pricing the order anew.
 */
public final class ReturnsDesk {
    /** Kinds of lines. */
    public static final int PLAIN = 0, SEALED = 1, FINAL = 2;
    /** States of lines. */
    public static final int KEPT = 0, ASKED = 1, EXCHANGED = 2, BACK = 3;
    /** Reasons. */
    public static final int CHANGE = 0, FAULT = 1;
    /** Grades. */
    public static final int NEW = 0, OPENED = 1, SPOILED = 2, OTHER = 3;
    /** Ways of payment. */
    public static final int CARD = 0, VOUCHER = 1, POINTS = 2;

    private static final int MOST_ORDERS = 30, MOST_LINES = 8;
    private static final int MOST_PERCENT = 90, MOST_CENTS = 1000000, MOST_PRICE = 100000;
    private static final int FAULT_SPAN = 360, PLAIN_SPAN = 30, SEALED_SPAN = 14;
    private static final int WAIT_DAYS = 21;
    private static final int POST_FEE = 500;
    private static final int NEW_STOCK = 0, SECOND_STOCK = 1, WASTE_STOCK = 2;
    private static final int MOST_DAYS = 400, LAST_DAY = 10000;

    /** The orders by number; null behind the last one. */
    private final Order[] book = new Order[MOST_ORDERS];
    private int orderCount;
    private int today;
    private int newThings;
    private int secondThings;
    private int wasteThings;

    /** No orders; it is the day 0. */
    public ReturnsDesk() {
    }

    // ---- orders

    /** Opens an order and returns its number. */
    public int order(int percent, int least) throws IllegalArgumentException, IllegalStateException {
        requireRange(percent, 0, MOST_PERCENT);
        requireRange(least, 0, MOST_CENTS);
        if (orderCount < 0 || orderCount >= book.length) {
            throw new IllegalStateException("no room for another order");
        }
        book[orderCount] = new Order(percent, least);
        return orderCount++;
    }

    /** Adds a line to an order and returns its number. */
    public int add(int order, int price, int kind)
            throws IndexOutOfBoundsException, IllegalArgumentException, IllegalStateException {
        Order open = findOrder(order);
        requireRange(price, 1, MOST_PRICE);
        requireRange(kind, PLAIN, FINAL);
        if (open.isPaid || !open.hasRoom()) {
            throw new IllegalStateException("the order takes no more lines");
        }
        return open.addLine(new Line(price, kind));
    }

    /** Pays an order and returns what is paid by card. */
    public int pay(int order, int points, int voucher)
            throws IndexOutOfBoundsException, IllegalArgumentException, IllegalStateException {
        Order open = findOrder(order);
        requireRange(points, 0, MOST_CENTS);
        requireRange(voucher, 0, MOST_CENTS);
        if (open.isPaid || open.lineCount == 0) {
            throw new IllegalStateException("the order is paid or has no lines");
        }
        open.settle(points, voucher, today);
        return open.byCard;
    }

    /** Returns the number of orders. */
    public int orders() {
        return orderCount;
    }

    // ---- returns

    /** Tells whether a line can be asked back or exchanged today. */
    public boolean mayComeBack(int order, int line, int reason)
            throws IndexOutOfBoundsException, IllegalArgumentException {
        Order sold = findOrder(order);
        Line thing = findLine(sold, line);
        requireRange(reason, CHANGE, FAULT);
        return isReturnable(sold, thing, reason);
    }

    /** Asks a line back and returns the day on which it is KEPT again without a parcel. */
    public int ask(int order, int line, int reason)
            throws IndexOutOfBoundsException, IllegalArgumentException, IllegalStateException {
        return startWait(order, line, reason, ASKED);
    }

    /** Exchanges a line and returns the day on which it is charged once more without a parcel. */
    public int exchange(int order, int line, int reason)
            throws IndexOutOfBoundsException, IllegalArgumentException, IllegalStateException {
        return startWait(order, line, reason, EXCHANGED);
    }

    /** Grades what came in the parcel of a line and returns what is refunded. */
    public int grade(int order, int line, int grade)
            throws IndexOutOfBoundsException, IllegalArgumentException, IllegalStateException {
        Order sold = findOrder(order);
        Line thing = findLine(sold, line);
        requireRange(grade, NEW, OTHER);
        if (!thing.isWaitedFor()) {
            throw new IllegalStateException("the line is not waited for");
        }
        sold.fees += thing.feeFor(grade);
        putIntoStock(thing.reason, grade);
        thing.state = thing.state == ASKED ? BACK : KEPT;
        return sold.refundSurplus();
    }

    /** Returns the state of a line. */
    public int state(int order, int line) throws IndexOutOfBoundsException {
        return findLine(findOrder(order), line).state;
    }

    // ---- sums

    /** Returns the price of the lines of an order that are not BACK, priced with the coupon. */
    public int price(int order) throws IndexOutOfBoundsException {
        return findOrder(order).priceAnew();
    }

    /** Returns all fees and post fees of an order. */
    public int fees(int order) throws IndexOutOfBoundsException {
        return findOrder(order).fees;
    }

    /** Returns all charges of an order. */
    public int charges(int order) throws IndexOutOfBoundsException {
        return findOrder(order).charges;
    }

    /** Returns what was taken of an order by a way of payment: paid and charged, less refunded. */
    public int taken(int order, int way) throws IndexOutOfBoundsException, IllegalArgumentException {
        Order found = findOrder(order);
        requireRange(way, CARD, POINTS);
        if (way == CARD) {
            return found.byCard;
        }
        return way == VOUCHER ? found.byVoucher : found.byPoints;
    }

    /** Returns all that was refunded of an order. */
    public int refunded(int order) throws IndexOutOfBoundsException {
        return findOrder(order).refunded;
    }

    /** Returns by how much an order is short; 0 if it is not paid. */
    public int isShortBy(int order) throws IndexOutOfBoundsException {
        Order found = findOrder(order);
        return found.isPaid ? Math.max(found.owed() - found.allTaken(), 0) : 0;
    }

    /** Returns how many things are in a stock: 0 for NEW, 1 for second, 2 for waste. */
    public int stock(int stock) throws IllegalArgumentException {
        requireRange(stock, NEW_STOCK, WASTE_STOCK);
        if (stock == NEW_STOCK) {
            return newThings;
        }
        return stock == SECOND_STOCK ? secondThings : wasteThings;
    }

    /** Lets days pass and returns how many lines are KEPT again in them without a parcel. */
    public int pass(int days) throws IllegalArgumentException, IllegalStateException {
        requireRange(days, 1, MOST_DAYS);
        if (days > LAST_DAY - today) {
            throw new IllegalStateException("the day would be above the last one");
        }
        today += days;
        int keptAgain = 0;
        for (Order order : book) {
            if (order != null) {
                keptAgain += order.endWaits(today);
            }
        }
        return keptAgain;
    }

    /** Returns the day. */
    public int day() {
        return today;
    }

    private static void requireRange(int value, int least, int most) {
        if (value < least || value > most) {
            throw new IllegalArgumentException("an argument is out of range");
        }
    }

    private Order findOrder(int number) {
        Order found = number >= 0 && number < book.length ? book[number] : null;
        if (found == null) {
            throw new IndexOutOfBoundsException("no such order");
        }
        return found;
    }

    private static Line findLine(Order order, int number) {
        Line found = number >= 0 && number < order.lines.length ? order.lines[number] : null;
        if (found == null) {
            throw new IndexOutOfBoundsException("no such line");
        }
        return found;
    }

    private boolean isReturnable(Order order, Line line, int reason) {
        return order.isPaid && line.state == KEPT && today - order.paidOn <= line.spanFor(reason);
    }

    private int startWait(int order, int line, int reason, int waitState) {
        Order sold = findOrder(order);
        Line thing = findLine(sold, line);
        requireRange(reason, CHANGE, FAULT);
        if (!isReturnable(sold, thing, reason)) {
            throw new IllegalStateException("the line may not come back");
        }
        thing.state = waitState;
        thing.reason = reason;
        thing.waitEnds = today + WAIT_DAYS;
        return thing.waitEnds;
    }

    private void putIntoStock(int reason, int grade) {
        if (grade == NEW) {
            newThings++;
        } else if (grade == OPENED && reason == CHANGE) {
            secondThings++;
        } else if (grade != OTHER) {
            wasteThings++;
        }
    }

    /** One thing of an order. Reason and end of the wait mean something only while it is waited for. */
    private static final class Line {
        final int price;
        final int kind;
        int state = KEPT;
        int reason;
        int waitEnds;

        Line(int price, int kind) {
            this.price = price;
            this.kind = kind;
        }

        boolean isWaitedFor() {
            return state == ASKED || state == EXCHANGED;
        }

        /** How many days behind the day of the order the line may come back; below 0 for never. */
        int spanFor(int why) {
            if (why == FAULT) {
                return FAULT_SPAN;
            }
            if (kind == FINAL) {
                return -1;
            }
            return kind == SEALED ? SEALED_SPAN : PLAIN_SPAN;
        }

        /** The fee of a parcel with this grade, with its post fee. */
        int feeFor(int grade) {
            int postFee = reason == CHANGE ? POST_FEE : 0;
            return postFee + gradeFee(grade);
        }

        private int gradeFee(int grade) {
            // The wrong thing in the parcel is the customer's doing, whatever the reason.
            if (grade == NEW || (reason == FAULT && grade != OTHER)) {
                return 0;
            }
            if (grade == OPENED) {
                return kind == SEALED ? price / 2 : price / 5;
            }
            return price;
        }
    }

    /** One order with its coupon, its lines and its account. */
    private static final class Order {
        final int percent;
        final int least;
        /** The lines by number; null behind the last one. */
        final Line[] lines = new Line[MOST_LINES];
        int lineCount;
        boolean isPaid;
        int paidOn;
        int fees;
        int charges;
        int refunded;
        // What was taken by each way, less what was refunded by it.
        int byCard;
        int byVoucher;
        int byPoints;

        Order(int percent, int least) {
            this.percent = percent;
            this.least = least;
        }

        boolean hasRoom() {
            return lineCount < lines.length;
        }

        /** Adds a line where there is room for it, and returns its number. */
        int addLine(Line line) {
            int number = lineCount;
            if (number >= 0 && number < lines.length) {
                lines[number] = line;
                lineCount++;
            }
            return number;
        }

        /** Takes the price: by points and voucher as far as told, the rest by card. */
        void settle(int mostPoints, int mostVoucher, int day) {
            int due = priceAnew();
            byPoints = Math.min(mostPoints, due);
            byVoucher = Math.min(mostVoucher, due - byPoints);
            byCard = due - byPoints - byVoucher;
            isPaid = true;
            paidOn = day;
        }

        /** Prices the lines that are not BACK: the coupon may fail when others have come back. */
        int priceAnew() {
            int sum = 0;
            for (Line line : lines) {
                if (line != null && line.state != BACK) {
                    sum += line.price;
                }
            }
            return sum >= least ? sum - sum * percent / 100 : sum;
        }

        int owed() {
            return priceAnew() + fees + charges;
        }

        int allTaken() {
            return byCard + byVoucher + byPoints;
        }

        /** Refunds what was taken above what is owed, and returns it. */
        int refundSurplus() {
            int surplus = Math.max(allTaken() - owed(), 0);
            int toCard = Math.min(surplus, byCard);
            int toVoucher = Math.min(surplus - toCard, byVoucher);
            byCard -= toCard;
            byVoucher -= toVoucher;
            byPoints -= surplus - toCard - toVoucher;
            refunded += surplus;
            return surplus;
        }

        /** Ends the waits that are over on a day, and returns how many those were. */
        int endWaits(int day) {
            int ended = 0;
            for (Line line : lines) {
                if (line != null && line.isWaitedFor() && line.waitEnds <= day) {
                    if (line.state == EXCHANGED) {
                        charge(line.price);
                    }
                    line.state = KEPT;
                    ended++;
                }
            }
            return ended;
        }

        private void charge(int cents) {
            charges += cents;
            byCard += cents;
        }
    }
}
