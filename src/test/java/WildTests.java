/**
 * Rule 7 of LANGUAGE.md: no call throws by itself, for any arguments in any state. Behind the 512th call the answers
 * are free, so that only what is thrown is looked at: it must be an exception of the document, thrown by the class.
 */
final class WildTests {
    private static final int OBJECTS = 40;
    private static final int CALLS = 5000;
    private static final int[] EDGES = {Integer.MIN_VALUE, -1, 0, 1, 2, 3, 59, 60, 99, 100, 101, 100001, Integer.MAX_VALUE};

    private static long seed = 20261119L;

    private WildTests() {
    }

    static void run() {
        for (int i = 0; i < OBJECTS; i++) {
            CardPort x = new CardPort();
            int refused = 0;
            for (int j = 0; j < CALLS; j++) {
                Row row = Row.of(anyCall()).get(0);
                String said = row.saidBy(x);
                if (said.contains("Exception")) {
                    refused++;
                    if (!said.equals(Check.INDEX) && !said.equals(Check.ARGUMENT) && !said.equals(Check.STATE)) {
                        Check.that("LANGUAGE.md, rule 7: " + row.call + " throws " + said, false);
                    }
                }
            }
            Check.that("some of the wild calls are refused, not all", refused > 0 && refused < CALLS);
        }
    }

    private static String anyCall() {
        switch (below(19)) {
            case 0: return "shop(" + any() + ", " + any() + ")";
            case 1: return "kind(" + any() + ", " + any() + ", " + any() + ")";
            case 2: return "authorise(" + any() + ", " + any() + ", " + any() + ")";
            case 3: return "capture(" + any() + ", " + any() + ")";
            case 4: return "cancel(" + any() + ")";
            case 5: return "refund(" + any() + ", " + any() + ")";
            case 6: return "dispute(" + any() + ", " + any() + ")";
            case 7: return "answer(" + any() + ")";
            case 8: return "press(" + any() + ")";
            case 9: return "rule(" + any() + ", " + (below(2) == 0) + ")";
            case 10: return "pass(" + any() + ")";
            case 11: return "paymentOf(" + any() + ", " + any() + ")";
            case 12: return "captureOf(" + any() + ", " + any() + ")";
            case 13: return "chargebackOf(" + any() + ", " + any() + ")";
            case 14: return "limit(" + any() + ")";
            case 15: return "net(" + any() + ", " + (below(2) == 0) + ")";
            case 16: return "netAnew(" + any() + ")";
            case 17: return "due(" + any() + ")";
            default: return "count(" + any() + ")";
        }
    }

    /** Mostly small, so that many calls are not refused. */
    private static int any() {
        return below(6) == 0 ? EDGES[below(EDGES.length)] : below(8);
    }

    private static int below(int bound) {
        seed = seed * 6364136223846793005L + 1442695040888963407L;
        return (int) ((seed >>> 33) % bound);
    }
}
