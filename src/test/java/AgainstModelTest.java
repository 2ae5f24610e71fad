import java.util.ArrayDeque;
import java.util.Deque;

/** Runs of 512 calls, the same in each run of the test, each answered as the Model answers it. */
public final class AgainstModelTest {
    private static final int RUNS = 4000;
    private static final int CALLS = 512;
    private static final int[] EXTREMES = {Integer.MIN_VALUE, -1, 8, 30, 31, 100001, 1000001, Integer.MAX_VALUE};
    private static final Check CHECK = new Check("AgainstModelTest");

    private final ReturnsDesk desk = new ReturnsDesk();
    private final Model model = new Model();
    private final Deque<String> lastCalls = new ArrayDeque<>();
    private final int mostOrders;
    private long seed;

    private AgainstModelTest(int run) {
        seed = run * 7919L + 17;
        // Few orders make long histories of each; many reach the limit of orders.
        mostOrders = run % 4 == 0 ? 31 : 2 + run % 3 * 4;
    }

    public static void main(String[] args) {
        for (int run = 0; run < RUNS; run++) {
            new AgainstModelTest(run).runCalls(run);
        }
        CHECK.end();
    }

    private void runCalls(int run) {
        for (int call = 0; call < CALLS; call++) {
            if (!agrees()) {
                CHECK.report("run " + run + " behind the calls " + lastCalls);
                return;
            }
        }
    }

    /** A number from 0 to bound - 1, by the generator of Java's own Random, but always from this seed. */
    private int below(int bound) {
        seed = (seed * 0x5DEECE66DL + 0xBL) & ((1L << 48) - 1);
        return (int) ((seed >>> 17) % bound);
    }

    /** Mostly from least to most; now and then another number. */
    private int number(int least, int most) {
        return below(60) == 0 ? EXTREMES[below(EXTREMES.length)] : least + below(most - least + 1);
    }

    /** Mostly one that there is, and often the last, whose spans are not yet over. */
    private int orderNumber() {
        int last = Math.max(0, desk.orders() - 1);
        return below(2) == 0 ? last : number(0, below(20) == 0 ? last + 1 : last);
    }

    private int lineNumber(int order) {
        int last = Math.max(0, model.lines(order) - 1);
        return number(0, below(20) == 0 ? last + 1 : last);
    }

    private int days() {
        int[] usual = {1, 1, 2, 7, 14, 16, 20, 21, 22, 30};
        return below(12) == 0 ? number(1, 400) : usual[below(usual.length)];
    }

    private int cents() {
        return below(3) == 0 ? 0 : number(0, below(2) == 0 ? 3000 : 100000);
    }

    private int linePrice() {
        return below(3) == 0 ? number(1, 100000) : number(1, 2000);
    }

    private boolean agrees() {
        if (desk.orders() < mostOrders && below(mostOrders > 30 ? 8 : 24) == 0) {
            int percent = below(3) == 0 ? 0 : number(0, 90);
            int least = below(2) == 0 ? number(0, 1000000) : number(0, 6000);
            return same("order " + percent + " " + least, () -> desk.order(percent, least), model.order(percent, least));
        }
        int order = orderNumber();
        int line = lineNumber(order);
        switch (below(14)) {
            case 0: return passes();
            case 1: case 2: case 3: return buys(order);
            case 4: case 5: case 6: return returns(order, line);
            case 7: case 8: return grades(order, line);
            default: return asks(order, line);
        }
    }

    private boolean buys(int order) {
        if (below(4) == 0) {
            int points = cents();
            int voucher = cents();
            return same("pay " + order + " " + points + " " + voucher,
                    () -> desk.pay(order, points, voucher), model.pay(order, points, voucher));
        }
        int price = linePrice();
        int kind = number(0, 2);
        return same("add " + order + " " + price + " " + kind,
                () -> desk.add(order, price, kind), model.add(order, price, kind));
    }

    private boolean returns(int order, int line) {
        int reason = number(0, 1);
        if (below(2) == 0) {
            return same("ask " + order + " " + line + " " + reason,
                    () -> desk.ask(order, line, reason), model.send(order, line, reason, false));
        }
        return same("exchange " + order + " " + line + " " + reason,
                () -> desk.exchange(order, line, reason), model.send(order, line, reason, true));
    }

    private boolean passes() {
        int days = days();
        return same("pass " + days, () -> desk.pass(days), model.pass(days));
    }

    private boolean grades(int order, int line) {
        int grade = number(0, 3);
        return same("grade " + order + " " + line + " " + grade,
                () -> desk.grade(order, line, grade), model.grade(order, line, grade));
    }

    private boolean asks(int order, int line) {
        int small = number(0, 2);
        switch (below(11)) {
            case 0: return same("orders", () -> desk.orders(), model.orders());
            case 1: return same("mayComeBack " + order + " " + line + " " + small,
                    () -> desk.mayComeBack(order, line, small) ? 1 : 0, model.mayComeBack(order, line, small));
            case 2: return same("state " + order + " " + line, () -> desk.state(order, line), model.state(order, line));
            case 3: return same("price " + order, () -> desk.price(order), model.price(order));
            case 4: return same("fees " + order, () -> desk.fees(order), model.fees(order));
            case 5: return same("charges " + order, () -> desk.charges(order), model.charges(order));
            case 6: return same("taken " + order + " " + small,
                    () -> desk.taken(order, small), model.taken(order, small));
            case 7: return same("refunded " + order, () -> desk.refunded(order), model.refunded(order));
            case 8: return same("isShortBy " + order, () -> desk.isShortBy(order), model.isShortBy(order));
            case 9: return same("stock " + small, () -> desk.stock(small), model.stock(small));
            default: return same("day", () -> desk.day(), model.day());
        }
    }

    private boolean same(String what, Check.Call call, long due) {
        lastCalls.addLast(what);
        if (lastCalls.size() > 40) {
            lastCalls.removeFirst();
        }
        long got = answer(call);
        CHECK.is(what, due, got);
        return got == due;
    }

    private static long answer(Check.Call call) {
        try {
            return call.answer();
        } catch (RuntimeException thrown) {
            if (thrown.getClass() == Check.INDEX) {
                return Model.THROWS_INDEX;
            }
            if (thrown.getClass() == Check.ARGUMENT) {
                return Model.THROWS_ARGUMENT;
            }
            return thrown.getClass() == Check.STATE ? Model.THROWS_STATE : Long.MIN_VALUE;
        }
    }
}
