/** Promises 17, 18 and 20: net, netAnew, count. */
final class AskingTests {
    private AskingTests() {
    }

    static void run() {
        banksOfCardsAndShops();
        net();
        netAnew();
        banksThatDoNotExist();
        count();
    }

    private static void banksOfCardsAndShops() {
        for (int card = 0; card < 12; card++) {
            for (int shop = 0; shop < 8; shop++) {
                CardPort x = new CardPort();
                x.authorise(card, shop, 1000);
                x.capture(0, 1000);
                for (int bank = 0; bank < 4; bank++) {
                    long due = (shop % 4 == bank ? 990 : 0) - (card / 3 == bank ? 990 : 0);
                    String name = " of bank " + bank + ", card " + card + ", shop " + shop;
                    Check.same("17: net" + name, x.net(bank, true), due);
                    Check.same("17: net today" + name, x.net(bank, false), due);
                    Check.same("18: net anew" + name, x.netAnew(bank), due);
                }
            }
        }
    }

    private static void net() {
        CardPort x = new CardPort();
        x.authorise(0, 1, 1000);
        x.capture(0, 500);
        Check.same("17: a day", x.net(1, false), 495L);
        x.pass(1);
        Check.same("17: a new day", x.net(1, false), 0L);
        x.refund(0, 100);
        Check.same("17: the new day's refund", x.net(1, false), -100L);
        Check.same("17: the other bank's", x.net(0, false), 100L);
        Check.same("17: in all", x.net(1, true), 395L);
        x.dispute(0, 50);
        Check.same("17: the new day's chargeback", x.net(1, false), -150L);
        x.pass(2);
        x.answer(0);
        Check.same("17: the day of the answer", x.net(1, false), 50L);
        x.pass(1);
        x.press(0);
        Check.same("17: the day of the press", x.net(1, false), -50L);
        x.pass(1);
        x.rule(0, false);
        Check.same("17: the day of the ruling", x.net(1, false), 50L);
        Check.same("17: in all at the end", x.net(1, true), 395L);
    }

    private static void netAnew() {
        CardPort x = new CardPort();
        x.kind(0, 100, 50);
        x.authorise(0, 1, 1000);
        x.authorise(9, 2, 1000);
        x.capture(0, 600);
        x.capture(1, 200);
        x.refund(0, 10);
        x.dispute(0, 1);
        x.dispute(0, 2);
        x.dispute(0, 4);
        x.dispute(0, 8);
        x.dispute(0, 16);
        for (int i = 1; i < 5; i++) {
            x.answer(i);
        }
        for (int i = 2; i < 5; i++) {
            x.press(i);
        }
        x.rule(3, true);
        x.rule(4, false);
        x.kind(0, 0, 0);
        x.cancel(1);
        Check.same("18: bank 0", x.netAnew(0), -550L + 10 + 1 + 4 + 8);
        Check.same("18: bank 1", x.netAnew(1), 550L - 10 - 1 - 4 - 8);
        Check.same("18: bank 2", x.netAnew(2), 180L);
        Check.same("18: bank 3", x.netAnew(3), -180L);
        x.pass(11);
        Check.same("18: bank 0 as stages ended", x.netAnew(0), -550L + 10 + 1 + 4 + 8);
    }

    private static void banksThatDoNotExist() {
        CardPort x = new CardPort();
        for (int bank : new int[] {-1, 4, Integer.MIN_VALUE, Integer.MAX_VALUE}) {
            Check.throwing("17: bank " + bank, Check.INDEX, () -> x.net(bank, true));
            Check.throwing("17: bank today " + bank, Check.INDEX, () -> x.net(bank, false));
            Check.throwing("18: bank " + bank, Check.INDEX, () -> x.netAnew(bank));
        }
    }

    private static void count() {
        CardPort x = new CardPort();
        x.authorise(0, 1, 1000);
        x.authorise(0, 1, 1000);
        x.authorise(0, 1, 10001);
        x.capture(0, 199);
        x.capture(0, 300);
        x.capture(1, 1000);
        x.cancel(0);
        x.refund(0, 199);
        x.dispute(1, 100);
        x.pass(12);
        int[] due = {2, 3, 1, 14, 12};
        for (int what = 0; what < 5; what++) {
            Check.same("20: what " + what, x.count(what), due[what]);
        }
        Check.throwing("20: what -1", Check.ARGUMENT, () -> x.count(-1));
        Check.throwing("20: what 5", Check.ARGUMENT, () -> x.count(5));
        Check.throwing("20: the least what", Check.ARGUMENT, () -> x.count(Integer.MIN_VALUE));
    }
}
