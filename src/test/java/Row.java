import java.util.ArrayList;
import java.util.List;

/** One row of a script: a call, and behind "->" what is due: a number, or Index, Argument or State for an exception. */
final class Row {
    final String call;
    /** The due answer, or the name of the due exception; null if any answer will do, but no exception. */
    final String due;
    private final String name;
    private final int[] args;

    private Row(String text) {
        String[] parts = text.split("->");
        call = parts[0].trim();
        due = parts.length == 1 ? null : dueOf(parts[1].trim());
        int open = call.indexOf('(');
        name = call.substring(0, open);
        String[] words = call.substring(open + 1, call.length() - 1).split(",");
        args = new int[words.length];
        for (int i = 0; i < words.length; i++) {
            args[i] = numberOf(words[i].trim());
        }
    }

    static List<Row> of(String... texts) {
        List<Row> rows = new ArrayList<>();
        for (String text : texts) {
            text.lines().filter(line -> !line.isBlank()).forEach(line -> rows.add(new Row(line.trim())));
        }
        return rows;
    }

    private static String dueOf(String word) {
        switch (word) {
            case "Index": return Check.INDEX;
            case "Argument": return Check.ARGUMENT;
            case "State": return Check.STATE;
            default: return String.valueOf(Long.parseLong(word));
        }
    }

    private static int numberOf(String word) {
        switch (word) {
            case "MIN": return Integer.MIN_VALUE;
            case "MAX": return Integer.MAX_VALUE;
            case "true": return 1;
            case "false": return 0;
            default: return Integer.parseInt(word);
        }
    }

    boolean isRefused() {
        return due != null && due.endsWith("Exception");
    }

    boolean isAsDue(String said) {
        return due == null ? !said.contains("Exception") : said.equals(due);
    }

    String saidBy(CardPort x) {
        return Check.said(() -> answerOf(x));
    }

    private long answerOf(CardPort x) {
        switch (name + args.length) {
            case "shop2": return x.shop(args[0], args[1]);
            case "kind3": return x.kind(args[0], args[1], args[2]);
            case "authorise3": return x.authorise(args[0], args[1], args[2]);
            case "capture2": return x.capture(args[0], args[1]);
            case "cancel1": return x.cancel(args[0]);
            case "refund2": return x.refund(args[0], args[1]);
            case "dispute2": return x.dispute(args[0], args[1]);
            case "answer1": return x.answer(args[0]);
            case "press1": return x.press(args[0]);
            case "rule2": return x.rule(args[0], args[1] == 1);
            case "pass1": return x.pass(args[0]);
            case "paymentOf2": return x.paymentOf(args[0], args[1]);
            case "captureOf2": return x.captureOf(args[0], args[1]);
            case "chargebackOf2": return x.chargebackOf(args[0], args[1]);
            case "limit1": return x.limit(args[0]);
            case "net2": return x.net(args[0], args[1] == 1);
            case "netAnew1": return x.netAnew(args[0]);
            case "due1": return x.due(args[0]);
            case "count1": return x.count(args[0]);
            default: throw new AssertionError("a script calls what the face has not: " + call);
        }
    }
}
