/** Promises 4 to 6, 13 and 16: authorise, capture, cancel, paymentOf, limit. */
final class PaymentTests {
    private PaymentTests() {
    }

    static void run() {
        authorise();
        authoriseRefuses();
        sixtyPayments();
        capture();
        captureRefuses();
        hundredCaptures();
        expiry();
        cancel();
        cancelRefuses();
        paymentOf();
        limit();
        limitOfTheLatestFive();
    }

    private static void authorise() {
        CardPort x = new CardPort();
        Check.same("4: above the limit", x.authorise(0, 0, 10001), CardPort.NONE);
        Check.same("4: nothing was made", x.count(0), 0);
        Check.same("4: as much as the limit", x.authorise(0, 0, 10000), 0);
        Check.same("4: authorisations do not lower the limit", x.authorise(0, 7, 10000), 1);
        Check.same("4: the least amount", x.authorise(11, 7, 1), 2);
        Check.same("4: the greatest amount is above the limit", x.authorise(11, 7, 100000), CardPort.NONE);
        Check.same("4: three were made", x.count(0), 3);
        Check.same("4: no bank pays", x.net(0, true), 0L);
    }

    private static void authoriseRefuses() {
        CardPort x = new CardPort();
        Check.throwing("4: card -1", Check.INDEX, () -> x.authorise(-1, 0, 1));
        Check.throwing("4: card 12", Check.INDEX, () -> x.authorise(12, 0, 1));
        Check.throwing("4: shop -1", Check.INDEX, () -> x.authorise(0, -1, 1));
        Check.throwing("4: shop 8", Check.INDEX, () -> x.authorise(0, 8, 1));
        Check.throwing("4: amount 0", Check.ARGUMENT, () -> x.authorise(0, 0, 0));
        Check.throwing("4: amount -1", Check.ARGUMENT, () -> x.authorise(0, 0, -1));
        Check.throwing("4: amount 100001", Check.ARGUMENT, () -> x.authorise(0, 0, 100001));
        Check.throwing("4: card before amount", Check.INDEX, () -> x.authorise(12, 0, 0));
        Check.throwing("4: shop before amount", Check.INDEX, () -> x.authorise(0, 8, 100001));
        Check.same("4: nothing was made", Snapshot.of(x), Snapshot.of(new CardPort()));
    }

    private static void sixtyPayments() {
        CardPort x = new CardPort();
        for (int i = 0; i < 60; i++) {
            Check.same("4: payment " + i, x.authorise(i % 12, i % 8, 1 + i), i);
        }
        Check.throwing("4: a payment too many", Check.STATE, () -> x.authorise(0, 0, 1));
        Check.throwing("4: too many goes ahead of the limit", Check.STATE, () -> x.authorise(0, 0, 10001));
        Check.throwing("4: amount before too many", Check.ARGUMENT, () -> x.authorise(0, 0, 0));
        Check.throwing("4: card before too many", Check.INDEX, () -> x.authorise(12, 0, 1));
        x.cancel(0);
        Check.throwing("4: a void payment counts", Check.STATE, () -> x.authorise(0, 0, 1));
        x.pass(20);
        Check.throwing("4: expired payments count", Check.STATE, () -> x.authorise(0, 0, 1));
        Check.same("4: sixty", x.count(0), 60);
    }

    private static void capture() {
        CardPort x = new CardPort();
        x.authorise(3, 6, 1000);
        x.authorise(4, 6, 1000);
        Check.same("5: the first", x.capture(1, 400), 0);
        Check.same("5: the second", x.capture(0, 1000), 1);
        Check.same("5: the third", x.capture(1, 600), 2);
        Check.same("5: bank 1 paid", x.net(1, true), -1980L);
        Check.same("5: bank 2 was paid", x.net(2, true), 1980L);
        Check.same("5: others did nothing", x.net(0, true) + x.net(3, true), 0L);
        Check.same("5: what is captured", x.paymentOf(1, 3), 1000);
    }

    private static void captureRefuses() {
        CardPort x = new CardPort();
        Check.throwing("5: no payments", Check.INDEX, () -> x.capture(0, 1));
        x.authorise(3, 6, 1000);
        x.capture(0, 400);
        Check.throwing("5: payment -1", Check.INDEX, () -> x.capture(-1, 1));
        Check.throwing("5: payment 1", Check.INDEX, () -> x.capture(1, 1));
        Check.throwing("5: payment before amount", Check.INDEX, () -> x.capture(1, 0));
        Check.throwing("5: amount 0", Check.ARGUMENT, () -> x.capture(0, 0));
        Check.throwing("5: amount 100001", Check.ARGUMENT, () -> x.capture(0, 100001));
        Check.throwing("5: amount 100000", Check.STATE, () -> x.capture(0, 100000));
        Check.throwing("5: less is left", Check.STATE, () -> x.capture(0, 601));
        Check.changesNothing("5: a refused capture", y -> {
            y.authorise(3, 6, 1000);
            y.capture(0, 400);
        }, y -> {
            Check.said(() -> y.capture(0, 601));
            Check.said(() -> y.capture(0, 0));
            Check.said(() -> y.capture(1, 1));
        });
        Check.answers("5: just what is left", 1, () -> x.capture(0, 600));
        Check.throwing("5: nothing is left", Check.STATE, () -> x.capture(0, 1));
        x.pass(8);
        Check.throwing("5: amount before expiry", Check.ARGUMENT, () -> x.capture(0, 0));
    }

    private static void hundredCaptures() {
        CardPort x = new CardPort();
        x.authorise(0, 1, 10000);
        for (int i = 0; i < 100; i++) {
            Check.same("5: capture " + i, x.capture(0, 10), i);
        }
        Check.throwing("5: a capture too many", Check.STATE, () -> x.capture(0, 1));
        Check.throwing("5: amount before too many", Check.ARGUMENT, () -> x.capture(0, 0));
        Check.throwing("5: payment before too many", Check.INDEX, () -> x.capture(1, 1));
        Check.same("5: nothing more is captured", x.paymentOf(0, 3), 1000);
        Check.same("5: a hundred", x.count(1), 100);
        Check.answers("6: what is left can be made void yet", 9000, () -> x.cancel(0));
    }

    private static void expiry() {
        CardPort x = new CardPort();
        x.pass(5);
        x.authorise(0, 1, 100);
        x.authorise(0, 1, 100);
        x.pass(7);
        Check.answers("5: on the last day", 0, () -> x.capture(0, 10));
        Check.same("13: alive on the last day", x.paymentOf(0, 5), 1);
        x.pass(1);
        Check.same("13: expired behind it", x.paymentOf(0, 5), 0);
        Check.throwing("5: it has expired", Check.STATE, () -> x.capture(0, 1));
        Check.throwing("6: it has expired", Check.STATE, () -> x.cancel(1));
        Check.same("13: what is captured stays", x.paymentOf(0, 3), 10);
    }

    private static void cancel() {
        CardPort x = new CardPort();
        x.authorise(0, 1, 100);
        x.authorise(0, 1, 100);
        x.authorise(0, 1, 100);
        x.capture(0, 30);
        x.capture(1, 100);
        Check.answers("6: what was left", 70, () -> x.cancel(0));
        Check.answers("6: nothing was left", 0, () -> x.cancel(1));
        x.pass(7);
        Check.answers("6: on the last day", 100, () -> x.cancel(2));
        Check.same("6: the captures stay", x.captureOf(0, 1), 30);
        Check.same("6: no bank pays", x.net(1, true), 129L);
        Check.throwing("6: void, no capture", Check.STATE, () -> x.capture(0, 1));
        Check.answers("6: a capture of a void payment can be refunded", 30, () -> x.refund(0, 30));
    }

    private static void cancelRefuses() {
        CardPort x = new CardPort();
        Check.throwing("6: no payments", Check.INDEX, () -> x.cancel(0));
        x.authorise(0, 1, 100);
        Check.throwing("6: payment -1", Check.INDEX, () -> x.cancel(-1));
        Check.throwing("6: payment 1", Check.INDEX, () -> x.cancel(1));
        x.cancel(0);
        Check.throwing("6: void", Check.STATE, () -> x.cancel(0));
        Check.changesNothing("6: a refused cancel", y -> {
            y.authorise(0, 1, 100);
            y.cancel(0);
            y.authorise(0, 1, 100);
            y.pass(3);
        }, y -> {
            Check.said(() -> y.cancel(0));
            Check.said(() -> y.cancel(2));
        });
    }

    private static void paymentOf() {
        CardPort x = new CardPort();
        Check.throwing("13: no payments", Check.INDEX, () -> x.paymentOf(0, 0));
        x.pass(4);
        x.authorise(0, 0, 1);
        x.authorise(10, 5, 1234);
        x.capture(1, 34);
        int[] due = {10, 5, 1234, 34, 11, 1};
        for (int what = 0; what < 6; what++) {
            Check.same("13: what " + what, x.paymentOf(1, what), due[what]);
        }
        Check.throwing("13: what -1", Check.ARGUMENT, () -> x.paymentOf(1, -1));
        Check.throwing("13: what 6", Check.ARGUMENT, () -> x.paymentOf(1, 6));
        Check.throwing("13: payment -1", Check.INDEX, () -> x.paymentOf(-1, 0));
        Check.throwing("13: payment 2", Check.INDEX, () -> x.paymentOf(2, 0));
        Check.throwing("13: payment before what", Check.INDEX, () -> x.paymentOf(2, 6));
        x.capture(1, 1200);
        Check.same("13: nothing is left", x.paymentOf(1, 5), 0);
        x.cancel(0);
        Check.same("13: void", x.paymentOf(0, 5), 0);
        Check.same("13: the last day of a void one", x.paymentOf(0, 4), 11);
        Check.same("13: a void one has captured nothing", x.paymentOf(0, 3), 0);
    }

    private static void limit() {
        CardPort x = new CardPort();
        Check.throwing("16: card -1", Check.INDEX, () -> x.limit(-1));
        Check.throwing("16: card 12", Check.INDEX, () -> x.limit(12));
        x.authorise(5, 0, 10000);
        x.authorise(6, 0, 10000);
        Check.same("16: no captures", x.limit(5), 10000);
        x.capture(0, 166);
        Check.same("16: 500 at least", x.limit(5), 500);
        x.capture(1, 167);
        Check.same("16: another card has its own", x.limit(6), 501);
        x.capture(0, 169);
        Check.same("16: the product is divided, cut", x.limit(5), 502);
        Check.same("16: without any", x.limit(4), 10000);
        x.refund(0, 166);
        x.dispute(1, 100);
        Check.same("16: refunds and chargebacks do not count", x.limit(5), 502);
        x.pass(50);
        Check.same("16: days do not count", x.limit(5), 502);
    }

    private static void limitOfTheLatestFive() {
        CardPort x = new CardPort();
        x.authorise(0, 0, 10000);
        x.authorise(1, 0, 10000);
        int[] amounts = {3000, 1000, 500, 400, 301, 200, 100, 2};
        int[] due = {9000, 6000, 4500, 3675, 3120, 1440, 900, 601};
        for (int i = 0; i < amounts.length; i++) {
            x.capture(0, amounts[i]);
            x.capture(1, 1);
            Check.same("16: behind capture " + i, x.limit(0), due[i]);
        }
        Check.same("16: the other card", x.limit(1), 500);
        Check.same("4: above a learned limit", x.authorise(0, 3, 602), CardPort.NONE);
        Check.same("4: as much as a learned limit", x.authorise(0, 3, 601), 2);
    }
}
