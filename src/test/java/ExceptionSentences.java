import java.util.List;

/** The sentences of the terms on exceptions: each call with all its arguments at, below and above their edges. */
final class ExceptionSentences {
    private static final String INDEX = "IndexOutOfBoundsException is thrown for a bank, card, shop, kind, payment, capture "
            + "or chargeback that does not exist";
    private static final String ARGUMENT = "IllegalArgumentException for another argument out of range";
    private static final String STATE = "and IllegalStateException if a call is not possible now";
    private static final String ORDER = "If several apply, IndexOutOfBoundsException goes first, then IllegalArgumentException.";

    private static final List<String> NAMES = List.of("shop", "kind", "authorise", "capture", "cancel", "refund", "dispute",
            "answer", "press", "rule", "pass", "paymentOf", "captureOf", "chargebackOf", "limit", "net", "netAnew", "due", "count");
    private static final int PROMISE_OF_THE_FIRST_NAME = 2;
    private static final List<String> MAY_BE_IMPOSSIBLE =
            List.of("authorise", "capture", "cancel", "refund", "dispute", "answer", "press", "rule");

    /** 60 payments, all expired, two captures wholly given back, two chargebacks that are WON: little is possible. */
    private static final String ALL_DONE = Script.times(60, "authorise(0, 6, 100) -> #") + """
            capture(0, 100) -> 0
            capture(59, 100) -> 1
            dispute(0, 100) -> 0
            dispute(1, 100) -> 1
            pass(11) -> 11
            """;
    private static final String ONE_CAPTURE = "authorise(0, 0, 1) -> 0\ncapture(0, 1) -> 0\n";

    /** The range of an argument; outside it, it is something that does not exist, or just out of range. */
    private record Range(boolean isOfAThing, int least, int most) {
        boolean holds(long value) {
            return value >= least && value <= most;
        }

        long[] edges() {
            return new long[] {Integer.MIN_VALUE, least - 1L, least, most, Math.min(most + 1L, Integer.MAX_VALUE), Integer.MAX_VALUE};
        }
    }

    /** A call behind the rows of the state, and whether it is not possible there with arguments in range. */
    private record Tried(String state, String name, boolean isImpossible, Range[] ranges) {
    }

    private static final Range AMOUNT = new Range(false, 1, 100000);
    private static final Range BOOLEAN = new Range(false, 0, 1);
    private static final Range RANK = new Range(true, 0, Integer.MAX_VALUE);

    private ExceptionSentences() {
    }

    static void run() {
        everyCallIn("", 0, 0, 0);
        everyCallIn(ONE_CAPTURE, 1, 1, 0);
        everyCallIn(ALL_DONE, 60, 2, 2);
        impossiblePayments();
        impossibleGivingBack();
        impossibleStages();
        moreThanTold();
        severalApply();
        changesNothing();
    }

    private static Range things(int howMany) {
        return new Range(true, 0, howMany - 1);
    }

    private static Range upTo(int most) {
        return new Range(false, 0, most);
    }

    private static void everyCallIn(String state, int payments, int captures, int chargebacks) {
        every(state, "shop", things(8), things(3));
        every(state, "kind", things(3), upTo(100), upTo(9999));
        every(state, "authorise", things(12), things(8), AMOUNT);
        every(state, "capture", things(payments), AMOUNT);
        every(state, "cancel", things(payments));
        every(state, "refund", things(captures), AMOUNT);
        every(state, "dispute", things(captures), AMOUNT);
        every(state, "answer", things(chargebacks));
        every(state, "press", things(chargebacks));
        every(state, "rule", things(chargebacks), BOOLEAN);
        every(state, "pass", new Range(false, 1, 100));
        every(state, "paymentOf", things(payments), upTo(5));
        every(state, "captureOf", things(captures), upTo(4));
        every(state, "chargebackOf", things(chargebacks), upTo(3));
        every(state, "limit", things(12));
        every(state, "net", things(4), BOOLEAN);
        every(state, "netAnew", things(4));
        every(state, "due", RANK);
        every(state, "count", upTo(4));
    }

    /** One payment of each reason that holds a capture or a cancel off, and one network of 60 payments. */
    private static void impossiblePayments() {
        String payment = "authorise(0, 6, 10000) -> 0\n";
        everyImpossible(Script.times(60, "authorise(0, 6, 100) -> #"), "authorise", things(12), things(8), AMOUNT);
        everyImpossible(payment + Script.times(100, "capture(0, 1) -> #"), "capture", things(1), AMOUNT);
        everyImpossible(payment + "capture(0, 10000) -> 0", "capture", things(1), AMOUNT);
        for (String end : new String[] {"pass(8) -> 8", "cancel(0) -> 10000"}) {
            everyImpossible(payment + end, "capture", things(1), AMOUNT);
            everyImpossible(payment + end, "cancel", things(1));
        }
    }

    private static void impossibleGivingBack() {
        String capture = "authorise(0, 6, 10000) -> 0\ncapture(0, 10000) -> 0\n";
        everyImpossible(capture + Script.times(60, "dispute(0, 1) -> #"), "dispute", things(1), AMOUNT);
        String disputed = "dispute(0, 10000) -> 0\n";
        String answered = disputed + "answer(0) -> 10\n";
        String pressed = answered + "press(0) -> 1\n";
        String[] allGivenBack = {"refund(0, 10000) -> 10000", disputed, answered, pressed, pressed + "rule(0, true) -> 3",
            disputed + "pass(11) -> 11"};
        for (String givenBack : allGivenBack) {
            everyImpossible(capture + givenBack, "refund", things(1), AMOUNT);
            everyImpossible(capture + givenBack, "dispute", things(1), AMOUNT);
        }
    }

    private static void impossibleStages() {
        String open = "authorise(0, 6, 100) -> 0\ncapture(0, 100) -> 0\ndispute(0, 9) -> 0\n";
        String answered = open + "answer(0) -> 10\n";
        String pressed = answered + "press(0) -> 1\n";
        String[] stages = {open, answered, pressed, pressed + "rule(0, true) -> 3", pressed + "rule(0, false) -> 4",
            open + "pass(11) -> 11", answered + "pass(11) -> 11"};
        for (String stage : stages) {
            if (!stage.equals(open)) {
                everyImpossible(stage, "answer", things(1));
            }
            if (!stage.equals(answered)) {
                everyImpossible(stage, "press", things(1));
            }
            if (!stage.equals(pressed)) {
                everyImpossible(stage, "rule", things(1), BOOLEAN);
            }
        }
    }

    private static void every(String state, String name, Range... ranges) {
        boolean isImpossible = MAY_BE_IMPOSSIBLE.contains(name) && state.equals(ALL_DONE);
        combine(new Tried(state, name, isImpossible, ranges), new long[ranges.length], 0);
    }

    private static void everyImpossible(String state, String name, Range... ranges) {
        combine(new Tried(state, name, true, ranges), new long[ranges.length], 0);
    }

    /** All combinations of the edges of the arguments. */
    private static void combine(Tried tried, long[] values, int at) {
        if (at == values.length) {
            one(tried, values);
            return;
        }
        Range range = tried.ranges[at];
        long[] edges = range == BOOLEAN ? new long[] {0, 1} : range.edges();
        for (long edge : edges) {
            values[at] = edge;
            combine(tried, values, at + 1);
        }
    }

    private static void one(Tried tried, long[] values) {
        String state = tried.state;
        String name = tried.name;
        StringBuilder call = new StringBuilder(name).append('(');
        boolean hasNoSuchThing = false;
        boolean isOutOfRange = false;
        for (int i = 0; i < values.length; i++) {
            call.append(i == 0 ? "" : ", ").append(values[i]);
            Range range = tried.ranges[i];
            boolean isOutside = !range.holds(values[i]);
            hasNoSuchThing |= isOutside && range.isOfAThing;
            isOutOfRange |= isOutside && !range.isOfAThing;
        }
        call.append(')');
        int promise = PROMISE_OF_THE_FIRST_NAME + NAMES.indexOf(name);
        if (hasNoSuchThing) {
            Script.terms(promise, isOutOfRange || tried.isImpossible ? ORDER : INDEX, state, call + " -> Index");
        } else if (isOutOfRange) {
            Script.terms(promise, tried.isImpossible ? ORDER : ARGUMENT, state, call + " -> Argument");
        } else if (tried.isImpossible) {
            Script.terms(promise, STATE, state, call + " -> State");
        } else if (!MAY_BE_IMPOSSIBLE.contains(name)) {
            Script.terms(promise, ARGUMENT, state, call.toString());
        }
    }

    private static void moreThanTold() {
        String sentence = "also if there would be more than told.";
        Script.terms(4, sentence, Script.times(60, "authorise(0, 6, 100) -> #"), "authorise(0, 6, 100) -> State");
        Script.terms(5, sentence, "authorise(0, 6, 101) -> 0", Script.times(100, "capture(0, 1) -> #"), "capture(0, 1) -> State");
        Script.terms(8, sentence, "authorise(0, 6, 100) -> 0", "capture(0, 61) -> 0", Script.times(60, "dispute(0, 1) -> #"),
                "dispute(0, 1) -> State");
    }

    private static void severalApply() {
        Script.terms(4, ORDER, """
                authorise(12, 0, 1) -> Index
                authorise(12, 0, 100001) -> Index
                authorise(11, 0, 100001) -> Argument
                authorise(11, 0, 10001) -> -1
                authorise(11, 0, 10000) -> 0
                """);
        Script.terms(5, ORDER, ONE_CAPTURE, """
                capture(1, 0) -> Index
                capture(1, 1) -> Index
                capture(0, 0) -> Argument
                capture(0, 1) -> State
                """);
    }

    /** A refused call of each sort among others that answer as if it had not been made. */
    private static void changesNothing() {
        Script.terms(7, "A call that throws an exception changes nothing.", """
                shop(6, 3) -> Index
                kind(0, 101, 0) -> Argument
                authorise(3, 6, 0) -> Argument
                authorise(3, 6, 1000) -> 0
                capture(0, 1001) -> State
                capture(0, 100001) -> Argument
                capture(0, 600) -> 0
                cancel(1) -> Index
                refund(0, 601) -> State
                refund(0, 100) -> 100
                dispute(0, 501) -> State
                dispute(1, 1) -> Index
                dispute(0, 500) -> 0
                press(0) -> State
                rule(0, false) -> State
                answer(0) -> 10
                answer(0) -> State
                rule(0, true) -> State
                pass(0) -> Argument
                press(0) -> 1
                press(0) -> State
                answer(0) -> State
                pass(101) -> Argument
                rule(0, false) -> 4
                rule(0, true) -> State
                dispute(0, 501) -> State
                pass(8) -> 8
                capture(0, 1) -> State
                cancel(0) -> State
                count(0) -> 1
                count(1) -> 1
                count(2) -> 1
                count(3) -> 6
                net(2, true) -> 494
                netAnew(2) -> 494
                captureOf(0, 4) -> 100
                shop(6, 0) -> 0
                """);
    }
}
