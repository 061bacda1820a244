/** Promises 9 to 12, 15 and 19: answer, press, rule, pass, chargebackOf, due. */
final class ChargebackTests {
    private ChargebackTests() {
    }

    static void run() {
        answer();
        press();
        rule();
        stagesRefuse();
        stagesPay();
        daysEndStages();
        pass();
        passRefuses();
        chargebackOf();
        due();
        dueBehindStages();
    }

    /** Card 3 of bank 1, shop 6 of bank 2, one capture of 1000 with a fee of 10. */
    private static void open(CardPort x) {
        x.authorise(3, 6, 1000);
        x.capture(0, 1000);
    }

    private static void answer() {
        CardPort x = new CardPort();
        open(x);
        x.dispute(0, 100);
        x.dispute(0, 200);
        Check.answers("9: on the first day", 10, () -> x.answer(1));
        x.pass(10);
        Check.answers("9: on the last day", 20, () -> x.answer(0));
        Check.same("9: ANSWERED", x.chargebackOf(0, 0), CardPort.ANSWERED);
        Check.same("9: the last day to press", x.chargebackOf(0, 3), 20);
    }

    private static void press() {
        CardPort x = new CardPort();
        open(x);
        for (int i = 0; i < 4; i++) {
            x.dispute(0, 10);
            x.answer(i);
        }
        Check.answers("10: one", 1, () -> x.press(2));
        Check.answers("10: two", 2, () -> x.press(0));
        x.rule(2, true);
        x.pass(10);
        Check.answers("10: on the last day, two again", 2, () -> x.press(1));
        Check.same("10: PRESSED", x.chargebackOf(1, 0), CardPort.PRESSED);
        x.pass(100);
        Check.same("10: PRESSED has no deadline", x.chargebackOf(1, 0), CardPort.PRESSED);
    }

    private static void rule() {
        CardPort x = new CardPort();
        open(x);
        for (int i = 0; i < 2; i++) {
            x.dispute(0, 10);
            x.answer(i);
            x.press(i);
        }
        Check.answers("11: for the card", CardPort.WON, () -> x.rule(0, true));
        Check.answers("11: for the shop", CardPort.LOST, () -> x.rule(1, false));
        Check.same("11: WON", x.chargebackOf(0, 0), CardPort.WON);
        Check.same("11: LOST", x.chargebackOf(1, 0), CardPort.LOST);
    }

    /** One chargeback of each stage, by their numbers. */
    private static void everyStage(CardPort x) {
        open(x);
        for (int i = 0; i < 5; i++) {
            x.dispute(0, 10 + i);
        }
        for (int i = 1; i < 5; i++) {
            x.answer(i);
        }
        for (int i = 2; i < 5; i++) {
            x.press(i);
        }
        x.rule(3, true);
        x.rule(4, false);
    }

    private static void stagesRefuse() {
        CardPort x = new CardPort();
        Check.throwing("9: no chargebacks", Check.INDEX, () -> x.answer(0));
        Check.throwing("10: no chargebacks", Check.INDEX, () -> x.press(0));
        Check.throwing("11: no chargebacks", Check.INDEX, () -> x.rule(0, true));
        everyStage(x);
        for (int i = 0; i < 5; i++) {
            int number = i;
            Check.same("15: the stage", x.chargebackOf(i, 0), i);
            if (i != CardPort.OPEN) {
                Check.throwing("9: answer of stage " + i, Check.STATE, () -> x.answer(number));
            }
            if (i != CardPort.ANSWERED) {
                Check.throwing("10: press of stage " + i, Check.STATE, () -> x.press(number));
            }
            if (i != CardPort.PRESSED) {
                Check.throwing("11: rule of stage " + i, Check.STATE, () -> x.rule(number, true));
                Check.throwing("11: rule of stage " + i, Check.STATE, () -> x.rule(number, false));
            }
        }
        for (int number : new int[] {-1, 5, Integer.MIN_VALUE, Integer.MAX_VALUE}) {
            Check.throwing("9: chargeback " + number, Check.INDEX, () -> x.answer(number));
            Check.throwing("10: chargeback " + number, Check.INDEX, () -> x.press(number));
            Check.throwing("11: chargeback " + number, Check.INDEX, () -> x.rule(number, false));
        }
        Check.changesNothing("9 to 11: what is refused", ChargebackTests::everyStage, y -> {
            for (int i = 0; i < 6; i++) {
                int number = i;
                Check.said(() -> number == 0 ? 0 : y.answer(number));
                Check.said(() -> number == 1 ? 0 : y.press(number));
                Check.said(() -> number == 2 ? 0 : y.rule(number, number % 2 == 0));
            }
        });
    }

    private static void stagesPay() {
        CardPort x = new CardPort();
        open(x);
        netsAre(x, "5: the capture", 990);
        x.dispute(0, 300);
        netsAre(x, "8: the dispute", 690);
        x.answer(0);
        netsAre(x, "9: the answer", 990);
        x.press(0);
        netsAre(x, "10: the press", 690);
        x.rule(0, false);
        netsAre(x, "11: LOST", 990);
        x.dispute(0, 400);
        x.answer(1);
        x.press(1);
        x.rule(1, true);
        netsAre(x, "11: WON", 590);
        x.dispute(0, 5);
        x.dispute(0, 7);
        x.answer(3);
        netsAre(x, "8: two more", 585);
        x.pass(11);
        netsAre(x, "12: no bank pays as stages end", 585);
        Check.same("17: nor on that day", x.net(2, false), 0L);
    }

    private static void netsAre(CardPort x, String name, long ofTheShop) {
        Check.same(name + ": the shop's bank", x.net(2, true), ofTheShop);
        Check.same(name + ": the shop's bank anew", x.netAnew(2), ofTheShop);
        Check.same(name + ": the card's bank", x.net(1, true), -ofTheShop);
        Check.same(name + ": the card's bank anew", x.netAnew(1), -ofTheShop);
    }

    private static void daysEndStages() {
        CardPort x = new CardPort();
        open(x);
        x.pass(3);
        x.dispute(0, 10);
        x.dispute(0, 20);
        x.pass(10);
        Check.same("12: OPEN on its last day", x.chargebackOf(0, 0), CardPort.OPEN);
        x.answer(1);
        x.pass(1);
        Check.same("12: WON behind it", x.chargebackOf(0, 0), CardPort.WON);
        Check.same("12: ANSWERED goes on", x.chargebackOf(1, 0), CardPort.ANSWERED);
        x.pass(9);
        Check.same("12: ANSWERED on its last day", x.chargebackOf(1, 0), CardPort.ANSWERED);
        x.pass(1);
        Check.same("12: LOST behind it", x.chargebackOf(1, 0), CardPort.LOST);
        Check.throwing("9: too late", Check.STATE, () -> x.answer(0));
        Check.throwing("10: too late", Check.STATE, () -> x.press(1));
        x.dispute(0, 30);
        x.pass(100);
        Check.same("12: many days at once", x.chargebackOf(2, 0), CardPort.WON);
    }

    private static void pass() {
        CardPort x = new CardPort();
        Check.answers("12: one day", 1, () -> x.pass(1));
        Check.answers("12: a hundred", 101, () -> x.pass(100));
        Check.answers("12: fifty", 151, () -> x.pass(50));
        x.authorise(3, 6, 1000);
        x.capture(0, 1000);
        Check.same("17: today", x.net(2, false), 990L);
        x.pass(1);
        Check.same("17: another day", x.net(2, false), 0L);
        Check.same("17: in all", x.net(2, true), 990L);
    }

    private static void passRefuses() {
        CardPort x = new CardPort();
        Check.throwing("12: 0 days", Check.ARGUMENT, () -> x.pass(0));
        Check.throwing("12: -1 days", Check.ARGUMENT, () -> x.pass(-1));
        Check.throwing("12: 101 days", Check.ARGUMENT, () -> x.pass(101));
        Check.throwing("12: the greatest int", Check.ARGUMENT, () -> x.pass(Integer.MAX_VALUE));
        Check.changesNothing("12: a refused pass", ChargebackTests::everyStage, y -> {
            Check.said(() -> y.pass(0));
            Check.said(() -> y.pass(101));
        });
    }

    private static void chargebackOf() {
        CardPort x = new CardPort();
        Check.throwing("15: no chargebacks", Check.INDEX, () -> x.chargebackOf(0, 0));
        x.authorise(0, 0, 5);
        x.capture(0, 5);
        x.authorise(3, 6, 1000);
        x.capture(1, 1000);
        x.pass(1);
        for (int i = 0; i < 5; i++) {
            x.dispute(1, 10 + i);
        }
        x.pass(1);
        for (int i = 1; i < 5; i++) {
            x.answer(i);
        }
        for (int i = 2; i < 5; i++) {
            x.press(i);
        }
        x.rule(3, true);
        x.rule(4, false);
        int[] lastDays = {11, 12, -1, -1, -1};
        for (int i = 0; i < 5; i++) {
            Check.same("15: the stage of " + i, x.chargebackOf(i, 0), i);
            Check.same("15: the capture of " + i, x.chargebackOf(i, 1), 1);
            Check.same("15: the amount of " + i, x.chargebackOf(i, 2), 10 + i);
            Check.same("15: the last day of " + i, x.chargebackOf(i, 3), lastDays[i]);
        }
        x.pass(11);
        Check.same("15: the last day of WON by silence", x.chargebackOf(0, 3), -1);
        Check.same("15: the last day of LOST by silence", x.chargebackOf(1, 3), -1);
        Check.throwing("15: what -1", Check.ARGUMENT, () -> x.chargebackOf(0, -1));
        Check.throwing("15: what 4", Check.ARGUMENT, () -> x.chargebackOf(0, 4));
        Check.throwing("15: chargeback -1", Check.INDEX, () -> x.chargebackOf(-1, 0));
        Check.throwing("15: chargeback 5", Check.INDEX, () -> x.chargebackOf(5, 0));
        Check.throwing("15: chargeback before what", Check.INDEX, () -> x.chargebackOf(5, 4));
    }

    private static void due() {
        CardPort x = new CardPort();
        Check.throwing("19: rank -1", Check.INDEX, () -> x.due(-1));
        Check.throwing("19: the least rank", Check.INDEX, () -> x.due(Integer.MIN_VALUE));
        Check.answers("19: none", CardPort.NONE, () -> x.due(0));
        open(x);
        x.pass(1);
        x.dispute(0, 10);
        x.dispute(0, 30);
        x.dispute(0, 10);
        x.pass(1);
        x.dispute(0, 99);
        x.dispute(0, 20);
        x.dispute(0, 99);
        int[] order = {1, 0, 2, 3, 5, 4, -1, -1};
        for (int rank = 0; rank < order.length; rank++) {
            Check.same("19: rank " + rank, x.due(rank), order[rank]);
        }
        Check.answers("19: the greatest rank", CardPort.NONE, () -> x.due(Integer.MAX_VALUE));
        Check.throwing("19: rank -1 of some", Check.INDEX, () -> x.due(-1));
    }

    private static void dueBehindStages() {
        CardPort x = new CardPort();
        open(x);
        for (int i = 0; i < 5; i++) {
            x.dispute(0, 10 * (i + 1));
        }
        x.pass(1);
        x.answer(4);
        Check.same("19: ANSWERED has a later day", x.due(4), 4);
        Check.same("19: the others stand ahead", x.due(0), 3);
        x.dispute(0, 60);
        Check.same("19: OPEN and ANSWERED by amounts", x.due(4), 5);
        Check.same("19: then ANSWERED", x.due(5), 4);
        x.answer(3);
        x.press(3);
        Check.same("19: PRESSED is not due", x.due(0), 2);
        Check.same("19: not so many", x.due(5), CardPort.NONE);
        x.pass(10);
        Check.same("19: WON are not due", x.due(0), 5);
        Check.same("19: ANSWERED is", x.due(1), 4);
        Check.same("19: two", x.due(2), CardPort.NONE);
        x.pass(1);
        Check.same("19: nothing more", x.due(0), CardPort.NONE);
    }
}
