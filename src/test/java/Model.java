import java.util.ArrayList;
import java.util.List;

/**
 * The document once more, in another way: every payment between banks is kept, and all else is found from rows.
 * A call that is refused answers the exception's name.
 */
final class Model {
    private final int[] kindOf = new int[8];
    private final int[] rates = {10, 10, 10};
    private final int[] caps = {500, 500, 500};
    private final List<int[]> payments = new ArrayList<>();    // card, shop, amount, day, 1 if void
    private final List<int[]> captures = new ArrayList<>();    // payment, amount, fee, refunded
    private final List<int[]> chargebacks = new ArrayList<>(); // stage, capture, amount, day of the stage
    private final List<int[]> moves = new ArrayList<>();       // from, to, cents, day
    private int day = 0;

    int made(int what) {
        return what == 0 ? payments.size() : what == 1 ? captures.size() : chargebacks.size();
    }

    String call(int method, int a, int b, int c) {
        switch (method) {
            case 0: return shop(a, b);
            case 1: return kind(a, b, c);
            case 2: return authorise(a, b, c);
            case 3: return capture(a, b);
            case 4: return cancel(a);
            case 5: return refund(a, b);
            case 6: return dispute(a, b);
            case 7: return advance(a, 0, 1, true);
            case 8: return advance(a, 1, 2, false);
            case 9: return advance(a, 2, b == 1 ? 3 : 4, b != 1);
            case 10: return pass(a);
            case 11: return paymentOf(a, b);
            case 12: return captureOf(a, b);
            case 13: return chargebackOf(a, b);
            case 14: return a < 0 || a > 11 ? Check.INDEX : text(limit(a));
            case 15: return net(a, b == 1);
            case 16: return net(a, true);
            case 17: return due(a);
            default: return count(a);
        }
    }

    private static String text(long value) {
        return String.valueOf(value);
    }

    private static boolean isOutside(int value, int least, int most) {
        return value < least || value > most;
    }

    private String shop(int shop, int kind) {
        if (isOutside(shop, 0, 7) || isOutside(kind, 0, 2)) {
            return Check.INDEX;
        }
        int was = kindOf[shop];
        kindOf[shop] = kind;
        return text(was);
    }

    private String kind(int kind, int rate, int cap) {
        if (isOutside(kind, 0, 2)) {
            return Check.INDEX;
        }
        if (isOutside(rate, 0, 100) || isOutside(cap, 0, 9999)) {
            return Check.ARGUMENT;
        }
        rates[kind] = rate;
        caps[kind] = cap;
        return text(fee(kind, 10000));
    }

    private int fee(int kind, int amount) {
        int whole = (int) ((long) amount * rates[kind] / 1000L);
        return whole > caps[kind] ? caps[kind] : whole;
    }

    private String authorise(int card, int shop, int amount) {
        if (isOutside(card, 0, 11) || isOutside(shop, 0, 7)) {
            return Check.INDEX;
        }
        if (isOutside(amount, 1, 100000)) {
            return Check.ARGUMENT;
        }
        if (payments.size() == 60) {
            return Check.STATE;
        }
        if (amount > limit(card)) {
            return "-1";
        }
        payments.add(new int[] {card, shop, amount, day, 0});
        return text(payments.size() - 1);
    }

    private long limit(int card) {
        List<Integer> own = new ArrayList<>();
        for (int[] each : captures) {
            if (payments.get(each[0])[0] == card) {
                own.add(each[1]);
            }
        }
        if (own.isEmpty()) {
            return 10000;
        }
        List<Integer> latest = own.subList(Math.max(0, own.size() - 5), own.size());
        long sum = 0;
        for (int each : latest) {
            sum += each;
        }
        return Math.max(500, sum * 3 / latest.size());
    }

    private int captured(int payment) {
        int sum = 0;
        for (int[] each : captures) {
            sum += each[0] == payment ? each[1] : 0;
        }
        return sum;
    }

    private boolean isAlive(int payment) {
        int[] row = payments.get(payment);
        return row[4] == 0 && day - row[3] <= 7;
    }

    private String capture(int payment, int amount) {
        if (isOutside(payment, 0, payments.size() - 1)) {
            return Check.INDEX;
        }
        if (isOutside(amount, 1, 100000)) {
            return Check.ARGUMENT;
        }
        int[] row = payments.get(payment);
        if (captures.size() == 100 || !isAlive(payment) || captured(payment) + amount > row[2]) {
            return Check.STATE;
        }
        int fee = fee(kindOf[row[1]], amount);
        captures.add(new int[] {payment, amount, fee, 0});
        move(captures.size() - 1, amount - fee, true);
        return text(captures.size() - 1);
    }

    private void move(int capture, int cents, boolean isToShop) {
        int[] row = payments.get(captures.get(capture)[0]);
        int ofCard = row[0] / 3;
        int ofShop = row[1] % 4;
        moves.add(new int[] {isToShop ? ofCard : ofShop, isToShop ? ofShop : ofCard, cents, day});
    }

    private String cancel(int payment) {
        if (isOutside(payment, 0, payments.size() - 1)) {
            return Check.INDEX;
        }
        if (!isAlive(payment)) {
            return Check.STATE;
        }
        payments.get(payment)[4] = 1;
        return text(payments.get(payment)[2] - captured(payment));
    }

    private int givenBack(int capture) {
        int sum = captures.get(capture)[3];
        for (int[] each : chargebacks) {
            sum += each[1] == capture && each[0] < 4 ? each[2] : 0;
        }
        return sum;
    }

    private String refund(int capture, int amount) {
        if (isOutside(capture, 0, captures.size() - 1)) {
            return Check.INDEX;
        }
        if (isOutside(amount, 1, 100000)) {
            return Check.ARGUMENT;
        }
        if (givenBack(capture) + amount > captures.get(capture)[1]) {
            return Check.STATE;
        }
        captures.get(capture)[3] += amount;
        move(capture, amount, false);
        return text(givenBack(capture));
    }

    private String dispute(int capture, int amount) {
        if (isOutside(capture, 0, captures.size() - 1)) {
            return Check.INDEX;
        }
        if (isOutside(amount, 1, 100000)) {
            return Check.ARGUMENT;
        }
        if (chargebacks.size() == 60 || givenBack(capture) + amount > captures.get(capture)[1]) {
            return Check.STATE;
        }
        chargebacks.add(new int[] {0, capture, amount, day});
        move(capture, amount, false);
        return text(chargebacks.size() - 1);
    }

    private String advance(int chargeback, int from, int to, boolean isToShop) {
        if (isOutside(chargeback, 0, chargebacks.size() - 1)) {
            return Check.INDEX;
        }
        int[] row = chargebacks.get(chargeback);
        if (row[0] != from) {
            return Check.STATE;
        }
        row[0] = to;
        row[3] = day;
        if (to != 3) {
            move(row[1], row[2], isToShop);
        }
        if (to > 2) {
            return text(to);
        }
        if (to == 1) {
            return text(day + 10);
        }
        return text(chargebacks.stream().filter(each -> each[0] == 2).count());
    }

    private String pass(int days) {
        if (isOutside(days, 1, 100)) {
            return Check.ARGUMENT;
        }
        day += days;
        for (int[] each : chargebacks) {
            if (each[0] < 2 && day - each[3] > 10) {
                each[0] += 3;
            }
        }
        return text(day);
    }

    private String paymentOf(int payment, int what) {
        if (isOutside(payment, 0, payments.size() - 1)) {
            return Check.INDEX;
        }
        int[] row = payments.get(payment);
        switch (what) {
            case 0: case 1: case 2: return text(row[what]);
            case 3: return text(captured(payment));
            case 4: return text(row[3] + 7);
            case 5: return isAlive(payment) && captured(payment) < row[2] ? "1" : "0";
            default: return Check.ARGUMENT;
        }
    }

    private String captureOf(int capture, int what) {
        if (isOutside(capture, 0, captures.size() - 1)) {
            return Check.INDEX;
        }
        if (isOutside(what, 0, 4)) {
            return Check.ARGUMENT;
        }
        return text(what == 4 ? givenBack(capture) : captures.get(capture)[what]);
    }

    private String chargebackOf(int chargeback, int what) {
        if (isOutside(chargeback, 0, chargebacks.size() - 1)) {
            return Check.INDEX;
        }
        if (isOutside(what, 0, 3)) {
            return Check.ARGUMENT;
        }
        int[] row = chargebacks.get(chargeback);
        if (what < 3) {
            return text(row[what]);
        }
        return text(row[0] < 2 ? row[3] + 10 : -1);
    }

    private String net(int bank, boolean isAll) {
        if (isOutside(bank, 0, 3)) {
            return Check.INDEX;
        }
        long sum = 0;
        for (int[] each : moves) {
            if (isAll || each[3] == day) {
                sum += each[1] == bank ? each[2] : 0;
                sum -= each[0] == bank ? each[2] : 0;
            }
        }
        return text(sum);
    }

    private String due(int rank) {
        if (rank < 0) {
            return Check.INDEX;
        }
        List<Integer> numbers = new ArrayList<>();
        for (int i = 0; i < chargebacks.size(); i++) {
            if (chargebacks.get(i)[0] < 2) {
                numbers.add(i);
            }
        }
        numbers.sort((a, b) -> {
            int byDay = Integer.compare(chargebacks.get(a)[3], chargebacks.get(b)[3]);
            int byAmount = Integer.compare(chargebacks.get(b)[2], chargebacks.get(a)[2]);
            return byDay != 0 ? byDay : byAmount != 0 ? byAmount : Integer.compare(a, b);
        });
        return rank < numbers.size() ? text(numbers.get(rank)) : "-1";
    }

    private String count(int what) {
        long fees = 0;
        for (int[] each : captures) {
            fees += each[2];
        }
        long[] all = {payments.size(), captures.size(), chargebacks.size(), fees, day};
        return isOutside(what, 0, 4) ? Check.ARGUMENT : text(all[what]);
    }
}
