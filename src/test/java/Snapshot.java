/** All that can be asked of a small network, in one text; the shops are of kind 0 afterwards. */
final class Snapshot {
    private Snapshot() {
    }

    static String of(CardPort x) {
        StringBuilder text = new StringBuilder();
        for (int what = 0; what < 5; what++) {
            add(text, "count", x.count(what));
        }
        for (int i = 0; i < x.count(0); i++) {
            for (int what = 0; what < 6; what++) {
                add(text, "payment", x.paymentOf(i, what));
            }
        }
        for (int i = 0; i < x.count(1); i++) {
            for (int what = 0; what < 5; what++) {
                add(text, "capture", x.captureOf(i, what));
            }
        }
        for (int i = 0; i < x.count(2); i++) {
            for (int what = 0; what < 4; what++) {
                add(text, "chargeback", x.chargebackOf(i, what));
            }
            add(text, "due", x.due(i));
        }
        for (int card = 0; card < 12; card++) {
            add(text, "limit", x.limit(card));
        }
        for (int bank = 0; bank < 4; bank++) {
            add(text, "net", x.net(bank, true));
            add(text, "today", x.net(bank, false));
            add(text, "anew", x.netAnew(bank));
        }
        for (int shop = 0; shop < 8; shop++) {
            add(text, "kind", x.shop(shop, 0));
        }
        return text.toString();
    }

    private static void add(StringBuilder text, String name, long value) {
        text.append(name).append(' ').append(value).append("; ");
    }
}
