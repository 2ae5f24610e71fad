/** Desks that the tests of the edges begin with, and what all of a desk's questions answer. */
final class Desks {
    private static final int MOST_PASS = 400;

    private Desks() {
    }

    /** A desk with one paid order of one line, without a coupon, all by card. */
    static ReturnsDesk sold(int price, int kind) {
        return paid(0, 0, kind, price);
    }

    /** A desk with one paid order of lines of one kind and these prices, all by card. */
    static ReturnsDesk paid(int percent, int least, int kind, int... prices) {
        ReturnsDesk desk = open(percent, least, kind, prices);
        desk.pay(0, 0, 0);
        return desk;
    }

    /** A desk with one open order of lines of one kind and these prices. */
    static ReturnsDesk open(int percent, int least, int kind, int... prices) {
        ReturnsDesk desk = new ReturnsDesk();
        desk.order(percent, least);
        for (int price : prices) {
            desk.add(0, price, kind);
        }
        return desk;
    }

    /** Lets more days pass than one call may. */
    static void passAll(ReturnsDesk desk, int days) {
        for (int left = days; left > 0; left -= MOST_PASS) {
            desk.pass(Math.min(left, MOST_PASS));
        }
    }

    /**
     * A desk on the day 5 with a line in every state and an order of every sort: 0 paid, its lines
     * KEPT, ASKED, EXCHANGED, BACK and KEPT of the kind FINAL; 1 open with two lines; 2 open
     * without lines; 3 open with 8 lines.
     */
    static ReturnsDesk ofEverySort() {
        ReturnsDesk desk = open(10, 3000, ReturnsDesk.PLAIN, 1000, 1200, 1400, 1600);
        desk.add(0, 1800, ReturnsDesk.FINAL);
        desk.pay(0, 700, 900);
        desk.pass(3);
        desk.ask(0, 1, ReturnsDesk.CHANGE);
        desk.ask(0, 3, ReturnsDesk.CHANGE);
        desk.pass(2);
        desk.exchange(0, 2, ReturnsDesk.FAULT);
        desk.grade(0, 3, ReturnsDesk.OPENED);
        desk.order(20, 50);
        desk.add(1, 49, ReturnsDesk.PLAIN);
        desk.add(1, 1, ReturnsDesk.SEALED);
        desk.order(0, 0);
        desk.order(0, 0);
        for (int line = 0; line < 8; line++) {
            desk.add(3, 100 + line, ReturnsDesk.PLAIN);
        }
        return desk;
    }

    /** The answers of all questions that change nothing; some 90 calls for the desk of every sort. */
    static String answers(ReturnsDesk desk) {
        StringBuilder text = new StringBuilder();
        text.append("day ").append(desk.day()).append(" stocks");
        for (int stock = 0; stock < 3; stock++) {
            text.append(' ').append(desk.stock(stock));
        }
        int orders = desk.orders();
        text.append(" orders ").append(orders);
        for (int order = 0; order < orders; order++) {
            text.append(" | ").append(desk.price(order)).append(' ').append(desk.fees(order));
            text.append(' ').append(desk.charges(order)).append(' ').append(desk.refunded(order));
            text.append(' ').append(desk.isShortBy(order)).append(" ways");
            for (int way = 0; way < 3; way++) {
                text.append(' ').append(desk.taken(order, way));
            }
            appendLines(text, desk, order);
        }
        return text.toString();
    }

    private static void appendLines(StringBuilder text, ReturnsDesk desk, int order) {
        for (int line = 0; hasLine(desk, order, line); line++) {
            text.append(" line ").append(desk.state(order, line));
            text.append(desk.mayComeBack(order, line, ReturnsDesk.CHANGE) ? "c" : "-");
            text.append(desk.mayComeBack(order, line, ReturnsDesk.FAULT) ? "f" : "-");
        }
    }

    private static boolean hasLine(ReturnsDesk desk, int order, int line) {
        try {
            desk.state(order, line);
            return true;
        } catch (IndexOutOfBoundsException none) {
            return false;
        }
    }
}
