/** Promises 1 to 3: a new object, shop, kind. */
final class SetupTests {
    private SetupTests() {
    }

    static void run() {
        newObject();
        objectsAreApart();
        shop();
        shopRefuses();
        kind();
        kindRefuses();
        feesAreOfTheirTime();
    }

    private static void newObject() {
        CardPort x = new CardPort();
        for (int what = 0; what < 5; what++) {
            Check.same("1: count " + what + " of a new object", x.count(what), 0);
        }
        for (int card = 0; card < 12; card++) {
            Check.same("1: limit of card " + card, x.limit(card), 10000);
        }
        for (int bank = 0; bank < 4; bank++) {
            Check.same("1: net of bank " + bank, x.net(bank, true), 0L);
            Check.same("1: net of bank today " + bank, x.net(bank, false), 0L);
            Check.same("1: net anew of bank " + bank, x.netAnew(bank), 0L);
        }
        Check.same("1: nothing is due", x.due(0), -1);
        for (int shop = 0; shop < 8; shop++) {
            Check.same("1: shop " + shop + " is of kind 0", x.shop(shop, 0), 0);
        }
        for (int kind = 0; kind < 3; kind++) {
            x.shop(kind, kind);
            x.authorise(kind, kind, 10000);
            x.capture(kind, 1000);
            Check.same("1: the first rate of kind " + kind, x.captureOf(kind, 2), 10);
        }
    }

    private static void objectsAreApart() {
        CardPort one = new CardPort();
        CardPort other = new CardPort();
        one.shop(0, 2);
        one.kind(0, 50, 10);
        one.authorise(0, 1, 100);
        one.capture(0, 100);
        one.pass(1);
        Check.same("1: another object stays new", Snapshot.of(other), Snapshot.of(new CardPort()));
    }

    private static void shop() {
        CardPort x = new CardPort();
        Check.same("2: was 0", x.shop(7, 2), 0);
        Check.same("2: was 2", x.shop(7, 1), 2);
        Check.same("2: was 1", x.shop(7, 1), 1);
        Check.same("2: still 1", x.shop(7, 0), 1);
        Check.same("2: another shop is still 0", x.shop(6, 1), 0);
        Check.same("2: shop 0", x.shop(0, 2), 0);
        Check.same("2: shop 0 again", x.shop(0, 0), 2);
    }

    private static void shopRefuses() {
        CardPort x = new CardPort();
        Check.throwing("2: shop -1", Check.INDEX, () -> x.shop(-1, 0));
        Check.throwing("2: shop 8", Check.INDEX, () -> x.shop(8, 0));
        Check.throwing("2: kind -1", Check.INDEX, () -> x.shop(0, -1));
        Check.throwing("2: kind 3", Check.INDEX, () -> x.shop(0, 3));
        Check.throwing("2: the least int", Check.INDEX, () -> x.shop(Integer.MIN_VALUE, Integer.MAX_VALUE));
        Check.changesNothing("2: a refused shop", y -> y.shop(0, 2), y -> {
            Check.said(() -> y.shop(0, 3));
            Check.said(() -> y.shop(0, -1));
            Check.said(() -> y.shop(8, 1));
        });
    }

    private static void kind() {
        CardPort x = new CardPort();
        Check.same("3: 100 thousandths and a cap", x.kind(0, 100, 500), 500);
        Check.same("3: the cap is not reached", x.kind(0, 100, 9999), 1000);
        Check.same("3: a cap of 1000", x.kind(1, 100, 1000), 1000);
        Check.same("3: a cap of 999", x.kind(1, 100, 999), 999);
        Check.same("3: no rate", x.kind(2, 0, 9999), 0);
        Check.same("3: no cap", x.kind(2, 100, 0), 0);
        Check.same("3: one thousandth", x.kind(2, 1, 9999), 10);
        CardPort y = new CardPort();
        y.kind(1, 99, 7);
        y.shop(5, 1);
        y.authorise(0, 5, 2000);
        y.capture(0, 70);
        y.capture(0, 71);
        y.capture(0, 900);
        Check.same("3: 70 * 99 / 1000, cut", y.captureOf(0, 2), 6);
        Check.same("3: 71 * 99 / 1000, cut", y.captureOf(1, 2), 7);
        Check.same("3: the cap", y.captureOf(2, 2), 7);
    }

    private static void kindRefuses() {
        CardPort x = new CardPort();
        Check.throwing("3: kind -1", Check.INDEX, () -> x.kind(-1, 0, 0));
        Check.throwing("3: kind 3", Check.INDEX, () -> x.kind(3, 0, 0));
        Check.throwing("3: kind before rate", Check.INDEX, () -> x.kind(3, -1, 0));
        Check.throwing("3: kind before cap", Check.INDEX, () -> x.kind(-1, 0, 10000));
        Check.throwing("3: rate -1", Check.ARGUMENT, () -> x.kind(0, -1, 0));
        Check.throwing("3: rate 101", Check.ARGUMENT, () -> x.kind(0, 101, 0));
        Check.throwing("3: cap -1", Check.ARGUMENT, () -> x.kind(0, 0, -1));
        Check.throwing("3: cap 10000", Check.ARGUMENT, () -> x.kind(0, 0, 10000));
        Check.answers("3: the edges", 0, () -> x.kind(0, 0, 0));
        Check.answers("3: the other edges", 1000, () -> x.kind(0, 100, 9999));
        CardPort y = new CardPort();
        Check.said(() -> y.kind(0, 50, 10000));
        Check.said(() -> y.kind(0, 101, 3));
        y.authorise(0, 0, 10000);
        y.capture(0, 10000);
        y.authorise(0, 0, 30000);
        y.capture(1, 30000);
        y.authorise(0, 0, 60000);
        y.capture(2, 60000);
        Check.same("3: a refused kind keeps the rate", y.captureOf(0, 2), 100);
        Check.same("3: a refused kind keeps the rate and the cap", y.captureOf(1, 2), 300);
        Check.same("3: a refused kind keeps the cap", y.captureOf(2, 2), 500);
    }

    private static void feesAreOfTheirTime() {
        CardPort x = new CardPort();
        x.authorise(0, 1, 1000);
        x.capture(0, 100);
        x.kind(0, 100, 9999);
        Check.same("3: a fee stays", x.captureOf(0, 2), 1);
        x.capture(0, 100);
        Check.same("3: a later capture has the new rate", x.captureOf(1, 2), 10);
        x.shop(1, 1);
        x.capture(0, 100);
        Check.same("2: a later capture has the new kind", x.captureOf(2, 2), 1);
        Check.same("2: the fees before stay", x.captureOf(1, 2), 10);
    }
}
