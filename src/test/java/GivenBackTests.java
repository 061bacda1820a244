/** Promises 7, 8 and 14: refund, dispute, captureOf. */
final class GivenBackTests {
    private GivenBackTests() {
    }

    static void run() {
        refund();
        refundRefuses();
        dispute();
        disputeRefuses();
        sixtyChargebacks();
        whatIsGivenBackByStage();
        captureOf();
    }

    /** Card 3 of bank 1, shop 6 of bank 2, captures of 1000 and 500 with fees of 10 and 5. */
    private static void open(CardPort x) {
        x.authorise(3, 6, 2000);
        x.capture(0, 1000);
        x.capture(0, 500);
    }

    private static void refund() {
        CardPort x = new CardPort();
        open(x);
        Check.answers("7: a part", 300, () -> x.refund(0, 300));
        Check.answers("7: another part", 301, () -> x.refund(0, 1));
        Check.answers("7: another capture", 500, () -> x.refund(1, 500));
        Check.same("7: the shop's bank pays", x.net(2, true), 1485L - 801L);
        Check.same("7: the card's bank is paid", x.net(1, true), 801L - 1485L);
        x.dispute(0, 200);
        Check.answers("7: chargebacks are given back too", 502, () -> x.refund(0, 1));
        x.pass(30);
        Check.answers("7: up to the amount, at any time", 1000, () -> x.refund(0, 498));
        Check.throwing("7: no more", Check.STATE, () -> x.refund(0, 1));
        Check.same("7: the fee stays", x.captureOf(0, 2), 10);
        Check.same("7: what is captured stays", x.paymentOf(0, 3), 1500);
    }

    private static void refundRefuses() {
        CardPort x = new CardPort();
        Check.throwing("7: no captures", Check.INDEX, () -> x.refund(0, 1));
        open(x);
        Check.throwing("7: capture -1", Check.INDEX, () -> x.refund(-1, 1));
        Check.throwing("7: capture 2", Check.INDEX, () -> x.refund(2, 1));
        Check.throwing("7: capture before amount", Check.INDEX, () -> x.refund(2, 0));
        Check.throwing("7: amount 0", Check.ARGUMENT, () -> x.refund(0, 0));
        Check.throwing("7: amount 100001", Check.ARGUMENT, () -> x.refund(0, 100001));
        Check.throwing("7: amount 100000", Check.STATE, () -> x.refund(0, 100000));
        Check.throwing("7: more than the amount", Check.STATE, () -> x.refund(0, 1001));
        x.refund(1, 500);
        Check.throwing("7: amount before state", Check.ARGUMENT, () -> x.refund(1, -5));
        Check.changesNothing("7: a refused refund", GivenBackTests::open, y -> {
            Check.said(() -> y.refund(1, 501));
            Check.said(() -> y.refund(1, 0));
            Check.said(() -> y.refund(2, 1));
        });
    }

    private static void dispute() {
        CardPort x = new CardPort();
        open(x);
        x.pass(2);
        Check.answers("8: the first", 0, () -> x.dispute(1, 200));
        Check.answers("8: the second", 1, () -> x.dispute(0, 1000));
        Check.answers("8: the third", 2, () -> x.dispute(1, 300));
        Check.same("8: OPEN", x.chargebackOf(0, 0), CardPort.OPEN);
        Check.same("8: the last day", x.chargebackOf(0, 3), 12);
        Check.same("8: the shop's bank pays", x.net(2, false), -1500L);
        Check.same("8: the card's bank is paid", x.net(1, false), 1500L);
        Check.same("8: it is given back", x.captureOf(1, 4), 500);
        Check.same("8: it is not refunded", x.captureOf(1, 3), 0);
    }

    private static void disputeRefuses() {
        CardPort x = new CardPort();
        Check.throwing("8: no captures", Check.INDEX, () -> x.dispute(0, 1));
        open(x);
        x.refund(0, 100);
        Check.throwing("8: capture -1", Check.INDEX, () -> x.dispute(-1, 1));
        Check.throwing("8: capture 2", Check.INDEX, () -> x.dispute(2, 1));
        Check.throwing("8: capture before amount", Check.INDEX, () -> x.dispute(2, 0));
        Check.throwing("8: amount 0", Check.ARGUMENT, () -> x.dispute(0, 0));
        Check.throwing("8: amount 100001", Check.ARGUMENT, () -> x.dispute(0, 100001));
        Check.throwing("8: more than the refund leaves", Check.STATE, () -> x.dispute(0, 901));
        Check.answers("8: all that the refund leaves", 0, () -> x.dispute(0, 900));
        Check.throwing("8: nothing is left to give back", Check.STATE, () -> x.dispute(0, 1));
        Check.changesNothing("8: a refused dispute", GivenBackTests::open, y -> {
            Check.said(() -> y.dispute(1, 501));
            Check.said(() -> y.dispute(1, 0));
            Check.said(() -> y.dispute(2, 1));
        });
    }

    private static void sixtyChargebacks() {
        CardPort x = new CardPort();
        open(x);
        for (int i = 0; i < 60; i++) {
            Check.same("8: chargeback " + i, x.dispute(0, 2), i);
        }
        Check.throwing("8: a chargeback too many", Check.STATE, () -> x.dispute(0, 1));
        Check.throwing("8: amount before too many", Check.ARGUMENT, () -> x.dispute(0, 0));
        Check.throwing("8: capture before too many", Check.INDEX, () -> x.dispute(2, 1));
        Check.same("8: sixty", x.count(2), 60);
        Check.same("8: nothing more is given back", x.captureOf(0, 4), 120);
        Check.same("8: the last one is due last", x.due(59), 59);
        Check.same("19: not so many", x.due(60), CardPort.NONE);
    }

    private static void whatIsGivenBackByStage() {
        CardPort x = new CardPort();
        open(x);
        x.dispute(0, 600);
        Check.same("14: OPEN counts", x.captureOf(0, 4), 600);
        x.answer(0);
        Check.same("14: ANSWERED counts", x.captureOf(0, 4), 600);
        Check.throwing("7: ANSWERED holds a refund off", Check.STATE, () -> x.refund(0, 401));
        Check.throwing("8: ANSWERED holds a dispute off", Check.STATE, () -> x.dispute(0, 401));
        x.press(0);
        Check.same("14: PRESSED counts", x.captureOf(0, 4), 600);
        x.rule(0, false);
        Check.same("14: LOST does not count", x.captureOf(0, 4), 0);
        Check.answers("8: behind LOST all can be disputed anew", 1, () -> x.dispute(0, 1000));
        x.answer(1);
        x.press(1);
        x.rule(1, true);
        Check.same("14: WON counts", x.captureOf(0, 4), 1000);
        Check.throwing("7: WON holds a refund off", Check.STATE, () -> x.refund(0, 1));
        x.dispute(1, 400);
        x.pass(11);
        Check.same("14: WON by silence counts", x.captureOf(1, 4), 400);
        x.dispute(1, 100);
        x.answer(3);
        x.pass(11);
        Check.same("14: LOST by silence does not count", x.captureOf(1, 4), 400);
        Check.answers("7: behind LOST by silence", 500, () -> x.refund(1, 100));
    }

    private static void captureOf() {
        CardPort x = new CardPort();
        Check.throwing("14: no captures", Check.INDEX, () -> x.captureOf(0, 0));
        open(x);
        x.capture(0, 10);
        x.authorise(1, 1, 3000);
        x.capture(1, 100);
        x.refund(3, 20);
        x.dispute(3, 30);
        int[] due = {1, 100, 1, 20, 50};
        for (int what = 0; what < 5; what++) {
            Check.same("14: what " + what, x.captureOf(3, what), due[what]);
        }
        Check.throwing("14: what -1", Check.ARGUMENT, () -> x.captureOf(3, -1));
        Check.throwing("14: what 5", Check.ARGUMENT, () -> x.captureOf(3, 5));
        Check.throwing("14: capture -1", Check.INDEX, () -> x.captureOf(-1, 0));
        Check.throwing("14: capture 4", Check.INDEX, () -> x.captureOf(4, 0));
        Check.throwing("14: capture before what", Check.INDEX, () -> x.captureOf(4, 5));
    }
}
