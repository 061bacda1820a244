import java.util.List;

/** The calls by which an object is looked at behind a refused call. */
final class Questions {
    private Questions() {
    }

    /** All that can be asked without changing anything. */
    static List<Row> all(CardPort x) {
        StringBuilder rows = new StringBuilder();
        add(rows, "count(%d)", 5);
        add(rows, "limit(%d)", 12);
        add(rows, "net(%d, true)", 4);
        add(rows, "net(%d, false)", 4);
        add(rows, "netAnew(%d)", 4);
        for (int i = 0; i < x.count(0); i++) {
            add(rows, "paymentOf(" + i + ", %d)", 6);
        }
        for (int i = 0; i < x.count(1); i++) {
            add(rows, "captureOf(" + i + ", %d)", 5);
        }
        for (int i = 0; i < x.count(2); i++) {
            add(rows, "chargebackOf(" + i + ", %d)", 4);
        }
        add(rows, "due(%d)", x.count(2) + 1);
        return Row.of(rows.toString());
    }

    /** Calls that show what can't be asked: the kinds of shops, their rates and caps, the numbers that come next. */
    static List<Row> later(CardPort x) {
        int payments = x.count(0);
        int captures = x.count(1);
        StringBuilder rows = new StringBuilder();
        add(rows, "shop(%d, 0)", 8);
        for (int kind = 0; kind < 3; kind++) {
            int payment = payments + kind;
            int capture = captures + 2 * kind;
            rows.append("shop(5, ").append(kind).append(")\n");
            rows.append("authorise(").append(9 + kind).append(", 5, 10000)\n");
            rows.append("capture(").append(payment).append(", 1000)\n");
            rows.append("capture(").append(payment).append(", 9000)\n");
            rows.append("captureOf(").append(capture).append(", 2)\n");
            rows.append("captureOf(").append(capture + 1).append(", 2)\n");
            rows.append("dispute(").append(capture).append(", 1000)\n");
        }
        add(rows, "due(%d)", 3);
        rows.append("answer(0)\npass(1)\npress(0)\npass(10)\nrule(0, false)\n");
        add(rows, "net(%d, true)", 4);
        add(rows, "netAnew(%d)", 4);
        add(rows, "count(%d)", 5);
        return Row.of(rows.toString());
    }

    private static void add(StringBuilder rows, String row, int times) {
        for (int i = 0; i < times; i++) {
            rows.append(String.format(row, i)).append('\n');
        }
    }
}
