import java.util.ArrayList;
import java.util.List;

/**
 * The document once more, written another way: it keeps what happened on which day and finds
 * states, fees, charges and stocks from that alone, whenever they are asked for.
 * A call that should throw answers THROWS_INDEX, THROWS_ARGUMENT or THROWS_STATE.
 */
final class Model {
    static final long THROWS_INDEX = -1001;
    static final long THROWS_ARGUMENT = -1002;
    static final long THROWS_STATE = -1003;

    /** One asking back or exchange; grade is -1 without a parcel. */
    private record Wait(long from, boolean isExchange, int reason, int grade) {
        boolean isOverWithoutParcel(long day) {
            return grade < 0 && day - from >= 21;
        }

        Wait graded(int newGrade) {
            return new Wait(from, isExchange, reason, newGrade);
        }
    }

    private static final class Thing {
        final long price;
        final int kind;
        final List<Wait> waits = new ArrayList<>();

        Thing(long price, int kind) {
            this.price = price;
            this.kind = kind;
        }

        int state(long day) {
            if (waits.isEmpty()) {
                return 0;
            }
            Wait last = waits.get(waits.size() - 1);
            if (last.grade >= 0) {
                return last.isExchange ? 0 : 3;
            }
            return last.isOverWithoutParcel(day) ? 0 : last.isExchange ? 2 : 1;
        }

        long fees() {
            long sum = 0;
            for (Wait wait : waits) {
                if (wait.grade >= 0) {
                    long[] byGrade = {0, kind == 1 ? price / 2 : price / 5, price, price};
                    sum += wait.reason == 0 ? byGrade[wait.grade] + 500 : wait.grade == 3 ? price : 0;
                }
            }
            return sum;
        }

        long charges(long day) {
            return price * waits.stream().filter(w -> w.isExchange && w.isOverWithoutParcel(day)).count();
        }
    }

    private static final class Sale {
        final long percent;
        final long least;
        final List<Thing> things = new ArrayList<>();
        long paidOn = -1;
        final long[] paid = new long[3];
        final List<Long> refunds = new ArrayList<>();
        final long[] refundedBy = new long[3];

        Sale(long percent, long least) {
            this.percent = percent;
            this.least = least;
        }

        long price(long day) {
            long sum = things.stream().filter(t -> t.state(day) != 3).mapToLong(t -> t.price).sum();
            return sum < least ? sum : sum - sum * percent / 100;
        }

        long fees() {
            return things.stream().mapToLong(Thing::fees).sum();
        }

        long charges(long day) {
            return things.stream().mapToLong(t -> t.charges(day)).sum();
        }

        long taken(int way, long day) {
            return paid[way] + (way == 0 ? charges(day) : 0) - refundedBy[way];
        }

        long surplus(long day) {
            long taken = taken(0, day) + taken(1, day) + taken(2, day);
            return taken - price(day) - fees() - charges(day);
        }

        long refund(long day) {
            long sum = Math.max(0, surplus(day));
            long rest = sum;
            for (int way = 0; way < 3; way++) {
                long part = Math.min(rest, taken(way, day));
                refundedBy[way] += part;
                rest -= part;
            }
            refunds.add(sum);
            return sum;
        }
    }

    private final List<Sale> sales = new ArrayList<>();
    private long today;

    long order(int percent, int least) {
        if (percent < 0 || percent > 90 || least < 0 || least > 1000000) {
            return THROWS_ARGUMENT;
        }
        if (sales.size() == 30) {
            return THROWS_STATE;
        }
        sales.add(new Sale(percent, least));
        return sales.size() - 1;
    }

    long add(int order, int price, int kind) {
        if (isNoOrder(order)) {
            return THROWS_INDEX;
        }
        if (price < 1 || price > 100000 || kind < 0 || kind > 2) {
            return THROWS_ARGUMENT;
        }
        Sale sale = sales.get(order);
        if (sale.paidOn >= 0 || sale.things.size() == 8) {
            return THROWS_STATE;
        }
        sale.things.add(new Thing(price, kind));
        return sale.things.size() - 1;
    }

    long pay(int order, int points, int voucher) {
        if (isNoOrder(order)) {
            return THROWS_INDEX;
        }
        if (points < 0 || points > 1000000 || voucher < 0 || voucher > 1000000) {
            return THROWS_ARGUMENT;
        }
        Sale sale = sales.get(order);
        if (sale.paidOn >= 0 || sale.things.isEmpty()) {
            return THROWS_STATE;
        }
        long price = sale.price(today);
        sale.paidOn = today;
        sale.paid[2] = Math.min(points, price);
        sale.paid[1] = Math.min(voucher, price - sale.paid[2]);
        sale.paid[0] = price - sale.paid[1] - sale.paid[2];
        return sale.paid[0];
    }

    long orders() {
        return sales.size();
    }

    long mayComeBack(int order, int line, int reason) {
        if (isNoLine(order, line)) {
            return THROWS_INDEX;
        }
        if (reason != 0 && reason != 1) {
            return THROWS_ARGUMENT;
        }
        Sale sale = sales.get(order);
        Thing thing = sale.things.get(line);
        if (sale.paidOn < 0 || thing.state(today) != 0) {
            return 0;
        }
        long age = today - sale.paidOn;
        boolean inTime = switch (thing.kind) {
            case 0 -> age <= (reason == 1 ? 360 : 30);
            case 1 -> age <= (reason == 1 ? 360 : 14);
            default -> reason == 1 && age <= 360;
        };
        return inTime ? 1 : 0;
    }

    long send(int order, int line, int reason, boolean isExchange) {
        long may = mayComeBack(order, line, reason);
        if (may < 0) {
            return may;
        }
        if (may == 0) {
            return THROWS_STATE;
        }
        sales.get(order).things.get(line).waits.add(new Wait(today, isExchange, reason, -1));
        return today + 21;
    }

    long grade(int order, int line, int grade) {
        if (isNoLine(order, line)) {
            return THROWS_INDEX;
        }
        if (grade < 0 || grade > 3) {
            return THROWS_ARGUMENT;
        }
        Thing thing = sales.get(order).things.get(line);
        int state = thing.state(today);
        if (state != 1 && state != 2) {
            return THROWS_STATE;
        }
        int last = thing.waits.size() - 1;
        thing.waits.set(last, thing.waits.get(last).graded(grade));
        return sales.get(order).refund(today);
    }

    long state(int order, int line) {
        return isNoLine(order, line) ? THROWS_INDEX : sales.get(order).things.get(line).state(today);
    }

    long price(int order) {
        return isNoOrder(order) ? THROWS_INDEX : sales.get(order).price(today);
    }

    long fees(int order) {
        return isNoOrder(order) ? THROWS_INDEX : sales.get(order).fees();
    }

    long charges(int order) {
        return isNoOrder(order) ? THROWS_INDEX : sales.get(order).charges(today);
    }

    long taken(int order, int way) {
        if (isNoOrder(order)) {
            return THROWS_INDEX;
        }
        return way < 0 || way > 2 ? THROWS_ARGUMENT : sales.get(order).taken(way, today);
    }

    long refunded(int order) {
        if (isNoOrder(order)) {
            return THROWS_INDEX;
        }
        return sales.get(order).refunds.stream().mapToLong(sum -> sum).sum();
    }

    long isShortBy(int order) {
        if (isNoOrder(order)) {
            return THROWS_INDEX;
        }
        Sale sale = sales.get(order);
        return sale.paidOn < 0 ? 0 : Math.max(0, -sale.surplus(today));
    }

    long stock(int stock) {
        if (stock < 0 || stock > 2) {
            return THROWS_ARGUMENT;
        }
        return sales.stream().flatMap(sale -> sale.things.stream()).flatMap(thing -> thing.waits.stream())
                .filter(wait -> stockOf(wait) == stock).count();
    }

    private static int stockOf(Wait wait) {
        return switch (wait.grade) {
            case 0 -> 0;
            case 1 -> wait.reason == 0 ? 1 : 2;
            case 2 -> 2;
            default -> -1;
        };
    }

    long pass(int days) {
        if (days < 1 || days > 400) {
            return THROWS_ARGUMENT;
        }
        if (today + days > 10000) {
            return THROWS_STATE;
        }
        long before = overWithoutParcel();
        today += days;
        return overWithoutParcel() - before;
    }

    private long overWithoutParcel() {
        return sales.stream().flatMap(sale -> sale.things.stream()).flatMap(thing -> thing.waits.stream())
                .filter(wait -> wait.isOverWithoutParcel(today)).count();
    }

    long day() {
        return today;
    }

    /** How many lines there are, for a test that looks for some; none if there is no such order. */
    int lines(int order) {
        return isNoOrder(order) ? 0 : sales.get(order).things.size();
    }

    private boolean isNoOrder(int order) {
        return order < 0 || order >= sales.size();
    }

    private boolean isNoLine(int order, int line) {
        return isNoOrder(order) || line < 0 || line >= sales.get(order).things.size();
    }
}
