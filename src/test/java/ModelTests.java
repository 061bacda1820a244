import java.util.Map;
import java.util.TreeMap;

/** Long runs of calls, the same for every session, with the answers of the model; no run is above 512 calls. */
final class ModelTests {
    private static final int RUNS = 3000;
    /** With the 12 calls of netsAddUp, 512. */
    private static final int CALLS = 500;
    private static final String[] NAMES = {
        "shop", "kind", "authorise", "capture", "cancel", "refund", "dispute", "answer", "press", "rule", "pass",
        "paymentOf", "captureOf", "chargebackOf", "limit", "net", "netAnew", "due", "count"
    };
    /** How often each method is called, in the order of the names, by the character of a run. */
    private static final int[][] WEIGHTS = {
        {2, 2, 12, 16, 2, 8, 12, 8, 8, 8, 6, 6, 6, 6, 5, 8, 5, 8, 4},
        {1, 1, 30, 80, 1, 4, 10, 2, 2, 2, 1, 3, 3, 3, 3, 3, 3, 3, 2},
        {1, 1, 6, 8, 1, 1, 60, 14, 14, 8, 2, 2, 4, 8, 2, 4, 4, 20, 2},
        {1, 1, 6, 8, 1, 3, 12, 8, 5, 3, 25, 6, 4, 10, 2, 6, 3, 15, 2},
    };
    private static final int[] WILD = {
        -1, 0, 1, 2, 3, 4, 5, 6, 7, 8, 11, 12, 59, 60, 99, 100, 101, 9999, 10000, 10001, 100000, 100001,
        Integer.MIN_VALUE, Integer.MAX_VALUE
    };

    private static final Map<String, Integer> seen = new TreeMap<>();
    private static final int[] most = new int[3];
    private static long seed = 20261118L;

    private ModelTests() {
    }

    static void run() {
        for (int i = 0; i < RUNS; i++) {
            compare(i);
        }
        everythingWasSeen();
    }

    private static int below(int bound) {
        seed = seed * 6364136223846793005L + 1442695040888963407L;
        return (int) ((seed >>> 33) % bound);
    }

    private static void compare(int run) {
        CardPort x = new CardPort();
        Model model = new Model();
        int[] weights = WEIGHTS[run % WEIGHTS.length];
        StringBuilder told = new StringBuilder();
        for (int i = 0; i < CALLS; i++) {
            int method = pick(weights);
            int[] args = arguments(method, model);
            String due = model.call(method, args[0], args[1], args[2]);
            String got = Check.said(() -> call(x, method, args[0], args[1], args[2]));
            told.append(NAMES[method]).append('(').append(args[0]).append(", ").append(args[1]).append(", ")
                    .append(args[2]).append(") ").append(got).append('\n');
            if (!got.equals(due)) {
                Check.that("model run " + run + ", due is " + due + ":\n" + told, false);
                return;
            }
            note(method, got);
        }
        for (int what = 0; what < 3; what++) {
            most[what] = Math.max(most[what], model.made(what));
        }
        netsAddUp(run, x);
    }

    private static void note(int method, String got) {
        boolean isNumber = got.charAt(0) == '-' || Character.isDigit(got.charAt(0));
        String kind = isNumber ? (got.equals("-1") ? "-1" : "number") : got;
        seen.merge(NAMES[method] + " " + kind, 1, Integer::sum);
    }

    private static void netsAddUp(int run, CardPort x) {
        long inAll = 0;
        long today = 0;
        boolean isAlike = true;
        for (int bank = 0; bank < 4; bank++) {
            long net = x.net(bank, true);
            inAll += net;
            today += x.net(bank, false);
            isAlike &= net == x.netAnew(bank);
        }
        Check.that("model run " + run + ": nets add up to nothing", inAll == 0 && today == 0 && isAlike);
    }

    private static int pick(int[] weights) {
        int sum = 0;
        for (int each : weights) {
            sum += each;
        }
        int at = below(sum);
        int method = 0;
        while (at >= weights[method]) {
            at -= weights[method];
            method++;
        }
        return method;
    }

    /** Mostly arguments that exist, now and then an odd one. */
    private static int[] arguments(int method, Model model) {
        int[] args;
        int payment = latest(model.made(0));
        int capture = latest(model.made(1));
        int chargeback = latest(model.made(2));
        switch (method) {
            case 0: args = new int[] {below(8), below(3), 0}; break;
            case 1: args = new int[] {below(3), below(101), below(3) == 0 ? below(10000) : below(300)}; break;
            case 2: args = new int[] {below(4) == 0 ? below(12) : below(3) * 4, below(8), amount()}; break;
            case 3: args = new int[] {payment, below(2) == 0 ? amount() : 1 + below(60), 0}; break;
            case 4: args = new int[] {payment, 0, 0}; break;
            case 5: case 6: args = new int[] {capture, below(2) == 0 ? amount() : 1 + below(20), 0}; break;
            case 7: case 8: args = new int[] {chargeback, 0, 0}; break;
            case 9: args = new int[] {chargeback, below(2), 0}; break;
            case 10: args = new int[] {below(20) == 0 ? 1 + below(100) : 1 + below(4), 0, 0}; break;
            case 11: args = new int[] {payment, below(6), 0}; break;
            case 12: args = new int[] {capture, below(5), 0}; break;
            case 13: args = new int[] {chargeback, below(4), 0}; break;
            case 14: args = new int[] {below(12), 0, 0}; break;
            case 15: args = new int[] {below(4), below(2), 0}; break;
            case 16: args = new int[] {below(4), 0, 0}; break;
            case 17: args = new int[] {below(6), 0, 0}; break;
            default: args = new int[] {below(5), 0, 0}; break;
        }
        if (below(12) == 0) {
            int at = method == 9 || method == 15 ? 0 : below(3);
            args[at] = WILD[below(WILD.length)];
        }
        return args;
    }

    private static int latest(int count) {
        if (count == 0) {
            return 0;
        }
        return below(2) == 0 ? below(count) : Math.max(0, count - 1 - below(4));
    }

    private static int amount() {
        switch (below(6)) {
            case 0: return 1 + below(5);
            case 1: return 1 + below(10000);
            case 2: return 1 + below(100000);
            default: return 1 + below(900);
        }
    }

    private static long call(CardPort x, int method, int a, int b, int c) {
        switch (method) {
            case 0: return x.shop(a, b);
            case 1: return x.kind(a, b, c);
            case 2: return x.authorise(a, b, c);
            case 3: return x.capture(a, b);
            case 4: return x.cancel(a);
            case 5: return x.refund(a, b);
            case 6: return x.dispute(a, b);
            case 7: return x.answer(a);
            case 8: return x.press(a);
            case 9: return x.rule(a, b == 1);
            case 10: return x.pass(a);
            case 11: return x.paymentOf(a, b);
            case 12: return x.captureOf(a, b);
            case 13: return x.chargebackOf(a, b);
            case 14: return x.limit(a);
            case 15: return x.net(a, b == 1);
            case 16: return x.netAnew(a);
            case 17: return x.due(a);
            default: return x.count(a);
        }
    }

    /** The runs are worth little if they miss an exception that a promise names. */
    private static void everythingWasSeen() {
        String[] index = {"shop", "kind", "authorise", "capture", "cancel", "refund", "dispute", "answer", "press",
            "rule", "paymentOf", "captureOf", "chargebackOf", "limit", "net", "netAnew", "due"};
        String[] argument = {"kind", "authorise", "capture", "refund", "dispute", "pass", "paymentOf", "captureOf",
            "chargebackOf", "count"};
        Check.that("the runs have filled all rows: " + most[0] + ", " + most[1] + ", " + most[2], most[0] == 60 && most[1] == 100 && most[2] == 60);
        String[] state = {"authorise", "capture", "cancel", "refund", "dispute", "answer", "press", "rule"};
        wereSeen(NAMES, "number");
        wereSeen(index, Check.INDEX);
        wereSeen(argument, Check.ARGUMENT);
        wereSeen(state, Check.STATE);
        wereSeen(new String[] {"authorise", "chargebackOf", "due"}, "-1");
    }

    private static void wereSeen(String[] names, String kind) {
        for (String name : names) {
            Check.that("the runs have seen " + name + " " + kind, seen.getOrDefault(name + " " + kind, 0) > 0);
        }
    }
}
