/** The sentences of promises 9 to 12, 15 and 19, and those of the terms on the stages of chargebacks. */
final class ChargebackSentences {
    private static final String TWO = GivenBackSentences.TWO;
    /** One chargeback of each stage, by their numbers; their amounts are 10 to 14. */
    private static final String EVERY_STAGE = """
            authorise(3, 6, 200) -> 0
            capture(0, 200) -> 0
            dispute(0, 10) -> 0
            dispute(0, 11) -> 1
            dispute(0, 12) -> 2
            dispute(0, 13) -> 3
            dispute(0, 14) -> 4
            answer(1) -> 10
            answer(2) -> 10
            answer(3) -> 10
            answer(4) -> 10
            press(2) -> 1
            press(3) -> 2
            press(4) -> 3
            rule(3, true) -> 3
            rule(4, false) -> 4
            """;
    private static final String[] NUMBERS_THAT_ARE_NOT = {"MIN", "-1", "5", "MAX"};

    private ChargebackSentences() {
    }

    static void run() {
        open();
        openUntil();
        answered();
        answeredUntil();
        pressed();
        answer();
        press();
        rule();
        whatStagesRefuse();
        pass();
        passOneByOne();
        chargebackOf();
        lastDayOfStage();
        due();
        dueOrder();
        dueThrows();
    }

    private static void open() {
        Script.terms(8, "OPEN 0, as it is made: the bank of the shop pays the bank of the card its amount", TWO, """
                net(2, true) -> 149
                dispute(0, 1) -> 0
                chargebackOf(0, 0) -> 0
                net(2, true) -> 148
                net(1, true) -> -148
                dispute(0, 99) -> 1
                net(2, true) -> 49
                net(1, true) -> -49
                net(0, true) -> 0
                net(3, true) -> 0
                netAnew(2) -> 49
                netAnew(1) -> -49
                """);
        Script.terms(9, "it is ANSWERED 1 then, and the bank of the card pays the amount back.", TWO, """
                dispute(0, 40) -> 0
                net(2, true) -> 109
                answer(0) -> 10
                chargebackOf(0, 0) -> 1
                net(2, true) -> 149
                net(1, true) -> -149
                netAnew(2) -> 149
                netAnew(1) -> -149
                """);
    }

    private static void openUntil() {
        String until = "the shop may send papers up to the day that is 10 days behind that";
        String made = TWO + "pass(4) -> 4\ndispute(0, 40) -> 0\nchargebackOf(0, 3) -> 14\n";
        Script.terms(9, until, made, "pass(9) -> 13", "answer(0) -> 23");
        Script.terms(9, until, made, "pass(10) -> 14", "answer(0) -> 24");
        Script.terms(9, until, made, "pass(11) -> 15", "answer(0) -> State");
        Script.terms(12, "If it is OPEN when a day begins that is later, it is WON 3.", made, """
                pass(9) -> 13
                chargebackOf(0, 0) -> 0
                pass(1) -> 14
                chargebackOf(0, 0) -> 0
                net(2, true) -> 109
                pass(1) -> 15
                chargebackOf(0, 0) -> 3
                chargebackOf(0, 3) -> -1
                captureOf(0, 4) -> 40
                net(2, true) -> 109
                net(2, false) -> 0
                net(1, false) -> 0
                netAnew(2) -> 109
                pass(1) -> 16
                chargebackOf(0, 0) -> 3
                """);
        Script.terms(12, "If it is OPEN when a day begins that is later, it is WON 3.", """
                authorise(3, 6, 200) -> 0
                capture(0, 200) -> 0
                dispute(0, 1) -> 0
                pass(1) -> 1
                dispute(0, 1) -> 1
                pass(9) -> 10
                chargebackOf(0, 0) -> 0
                chargebackOf(1, 0) -> 0
                pass(1) -> 11
                chargebackOf(0, 0) -> 3
                chargebackOf(1, 0) -> 0
                pass(1) -> 12
                chargebackOf(0, 0) -> 3
                chargebackOf(1, 0) -> 3
                """);
    }

    private static void answered() {
        Script.terms(10, "it is PRESSED 2 then, and the bank of the shop pays the amount again.", TWO, """
                dispute(0, 40) -> 0
                answer(0) -> 10
                net(2, true) -> 149
                press(0) -> 1
                chargebackOf(0, 0) -> 2
                net(2, true) -> 109
                net(1, true) -> -109
                netAnew(2) -> 109
                netAnew(1) -> -109
                """);
    }

    private static void answeredUntil() {
        String until = "ANSWERED: the card may press up to 10 days behind the day on which it was answered";
        String made = TWO + "dispute(0, 40) -> 0\npass(4) -> 4\nanswer(0) -> 14\nchargebackOf(0, 3) -> 14\n";
        Script.terms(10, until, made, "pass(9) -> 13", "press(0) -> 1");
        Script.terms(10, until, made, "pass(10) -> 14", "press(0) -> 1");
        Script.terms(10, until, made, "pass(11) -> 15", "press(0) -> State");
        Script.terms(12, "If it is ANSWERED when a later day begins, it is LOST 4.", made, """
                pass(9) -> 13
                chargebackOf(0, 0) -> 1
                pass(1) -> 14
                chargebackOf(0, 0) -> 1
                captureOf(0, 4) -> 40
                pass(1) -> 15
                chargebackOf(0, 0) -> 4
                chargebackOf(0, 3) -> -1
                captureOf(0, 4) -> 0
                net(2, true) -> 149
                net(2, false) -> 0
                net(1, false) -> 0
                netAnew(2) -> 149
                pass(1) -> 16
                chargebackOf(0, 0) -> 4
                """);
        Script.terms(12, "If it is ANSWERED when a later day begins, it is LOST 4.", TWO, """
                dispute(0, 40) -> 0
                pass(10) -> 10
                answer(0) -> 20
                pass(1) -> 11
                chargebackOf(0, 0) -> 1
                pass(9) -> 20
                chargebackOf(0, 0) -> 1
                pass(1) -> 21
                chargebackOf(0, 0) -> 4
                """);
    }

    private static void pressed() {
        String pressed = TWO + "dispute(0, 40) -> 0\nanswer(0) -> 10\npress(0) -> 1\n";
        Script.terms(11, "PRESSED: a ruling lets it be WON, or LOST", pressed, """
                pass(100) -> 100
                chargebackOf(0, 0) -> 2
                rule(0, true) -> 3
                chargebackOf(0, 0) -> 3
                net(2, true) -> 109
                net(2, false) -> 0
                netAnew(2) -> 109
                captureOf(0, 4) -> 40
                """);
        Script.terms(11, "if it is LOST, the bank of the card pays the amount back.", pressed, """
                pass(100) -> 100
                rule(0, false) -> 4
                chargebackOf(0, 0) -> 4
                net(2, true) -> 149
                net(1, true) -> -149
                net(2, false) -> 40
                net(1, false) -> -40
                netAnew(2) -> 149
                netAnew(1) -> -149
                captureOf(0, 4) -> 0
                """);
    }

    private static void answer() {
        Script.promise(9, "Sends papers.", EVERY_STAGE, """
                answer(0) -> 10
                chargebackOf(0, 0) -> 1
                chargebackOf(1, 0) -> 1
                chargebackOf(0, 1) -> 0
                chargebackOf(0, 2) -> 10
                """);
        Script.promise(9, "Returns the last day on which the card may press.", TWO, """
                dispute(0, 1) -> 0
                dispute(0, 2) -> 1
                dispute(0, 3) -> 2
                answer(1) -> 10
                pass(1) -> 1
                answer(0) -> 11
                chargebackOf(0, 3) -> 11
                pass(9) -> 10
                answer(2) -> 20
                press(1) -> 1
                pass(1) -> 11
                press(0) -> 2
                pass(9) -> 20
                press(2) -> 3
                """);
        exists(9, "answer(%s)", "Throws `IndexOutOfBoundsException` if there is no such chargeback");
        exists(9, "answer(%s)", "- `chargeback`: a chargeback");
    }

    private static void press() {
        Script.promise(10, "Presses.", EVERY_STAGE, """
                press(1) -> 2
                chargebackOf(1, 0) -> 2
                chargebackOf(0, 0) -> 0
                chargebackOf(1, 3) -> -1
                """);
        Script.promise(10, "Returns how many are PRESSED then.", EVERY_STAGE, """
                answer(0) -> 10
                press(0) -> 2
                rule(2, true) -> 3
                press(1) -> 2
                rule(0, false) -> 4
                rule(1, true) -> 3
                dispute(0, 1) -> 5
                answer(5) -> 10
                press(5) -> 1
                pass(100) -> 100
                dispute(0, 1) -> 6
                answer(6) -> 110
                press(6) -> 2
                """);
        Script.promise(10, "Returns how many are PRESSED then.", "authorise(0, 0, 1000) -> 0", "capture(0, 1000) -> 0",
                Script.times(60, "dispute(0, 1) -> #"), Script.times(60, "answer(#) -> 10"),
                Script.times(59, "press(#)"), "press(59) -> 60", "press(59) -> State");
        exists(10, "press(%s)", "Throws `IndexOutOfBoundsException` if there is no such chargeback");
        exists(10, "press(%s)", "- `chargeback`: a chargeback");
    }

    private static void rule() {
        Script.promise(11, "Rules.", EVERY_STAGE, """
                answer(0) -> 10
                press(0) -> 2
                rule(2, false) -> 4
                chargebackOf(2, 0) -> 4
                chargebackOf(0, 0) -> 2
                """);
        Script.promise(11, "- `isForCard`: whether it is WON", EVERY_STAGE, "rule(2, true) -> 3", "chargebackOf(2, 0) -> 3");
        Script.promise(11, "- `isForCard`: whether it is WON", EVERY_STAGE, "rule(2, false) -> 4", "chargebackOf(2, 0) -> 4");
        Script.promise(11, "Returns WON or LOST.", TWO, """
                dispute(0, 1) -> 0
                answer(0) -> 10
                press(0) -> 1
                rule(0, true) -> 3
                dispute(0, 1) -> 1
                answer(1) -> 10
                press(1) -> 1
                rule(1, false) -> 4
                """);
        exists(11, "rule(%s, true)", "Throws `IndexOutOfBoundsException` if there is no such chargeback");
        exists(11, "rule(%s, false)", "- `chargeback`: a chargeback");
    }

    private static void exists(int promise, String call, String sentence) {
        for (String number : NUMBERS_THAT_ARE_NOT) {
            Script.promise(promise, sentence, EVERY_STAGE, call.formatted(number) + " -> Index");
        }
        Script.promise(promise, sentence, call.formatted("0") + " -> Index", TWO, call.formatted("0") + " -> Index",
                "dispute(0, 1) -> 0", call.formatted("1") + " -> Index", call.formatted("0").equals("answer(0)")
                ? "answer(0) -> 10" : call.formatted("0") + " -> State");
    }

    private static void whatStagesRefuse() {
        String[] calls = {"answer(%d)", "press(%d)", "rule(%d, true)", "rule(%d, false)"};
        String[] sentences = {"OPEN", "ANSWERED", "PRESSED", "PRESSED"};
        int[] stages = {0, 1, 2, 2};
        for (int i = 0; i < calls.length; i++) {
            String sentence = "Throws `IllegalStateException` if it is not " + sentences[i];
            for (int stage = 0; stage < 5; stage++) {
                String due = stage == stages[i] ? "" : " -> State";
                Script.promise(i > 2 ? 11 : 9 + i, sentence, EVERY_STAGE, calls[i].formatted(stage) + due);
            }
            Script.promise(i > 2 ? 11 : 9 + i, sentence, EVERY_STAGE, "pass(11) -> 11",
                    calls[i].formatted(0) + " -> State", calls[i].formatted(1) + " -> State");
            Script.promise(i > 2 ? 11 : 9 + i, sentence, EVERY_STAGE, calls[i].formatted(stages[i]),
                    calls[i].formatted(stages[i]) + " -> State");
        }
    }

    private static void pass() {
        Script.promise(12, "- `days`: 1 to 100", """
                pass(MIN) -> Argument
                pass(-1) -> Argument
                pass(0) -> Argument
                pass(1) -> 1
                pass(2) -> 3
                pass(99) -> 102
                pass(100) -> 202
                pass(101) -> Argument
                pass(MAX) -> Argument
                count(4) -> 202
                """);
        Script.promise(12, "Returns the day then.", "pass(1) -> 1", "pass(1) -> 2", "pass(100) -> 102", "count(4) -> 102");
        Script.promise(12, "Throws `IllegalArgumentException` if days is out of range", EVERY_STAGE, """
                pass(10) -> 10
                pass(0) -> Argument
                pass(101) -> Argument
                pass(-1) -> Argument
                pass(1) -> 11
                """);
    }

    private static void passOneByOne() {
        String sentence = "Lets days pass, one by one.";
        Script.promise(12, sentence, EVERY_STAGE, """
                pass(10) -> 10
                chargebackOf(0, 0) -> 0
                chargebackOf(1, 0) -> 1
                """);
        for (int days : new int[] {11, 12, 99, 100}) {
            Script.promise(12, sentence, EVERY_STAGE, "pass(" + days + ") -> " + days, """
                    chargebackOf(0, 0) -> 3
                    chargebackOf(1, 0) -> 4
                    chargebackOf(2, 0) -> 2
                    chargebackOf(3, 0) -> 3
                    chargebackOf(4, 0) -> 4
                    net(1, true) -> -163
                    net(2, true) -> 163
                    net(1, false) -> 0
                    net(2, false) -> 0
                    netAnew(1) -> -163
                    due(0) -> -1
                    """);
        }
        Script.promise(12, sentence, EVERY_STAGE, Script.times(1, 11, "pass(1) -> #"), """
                chargebackOf(0, 0) -> 0
                chargebackOf(1, 0) -> 1
                pass(1) -> 11
                chargebackOf(0, 0) -> 3
                chargebackOf(1, 0) -> 4
                chargebackOf(2, 0) -> 2
                """);
    }

    private static void chargebackOf() {
        Script.promise(15, "Returns something of a chargeback.", EVERY_STAGE, Script.times(5, """
                chargebackOf(#, 0) -> #
                chargebackOf(#, 1) -> 0
                chargebackOf(#, 2) -> 1#
                """));
        Script.promise(15, "- `chargeback`: a chargeback", """
                chargebackOf(0, 0) -> Index
                """, EVERY_STAGE, """
                chargebackOf(MIN, 0) -> Index
                chargebackOf(-1, 0) -> Index
                chargebackOf(0, 2) -> 10
                chargebackOf(1, 2) -> 11
                chargebackOf(3, 2) -> 13
                chargebackOf(4, 2) -> 14
                chargebackOf(5, 2) -> Index
                chargebackOf(MAX, 2) -> Index
                """);
        Script.promise(15, "- `what`: 0 OPEN to LOST, 1 the capture, 2 the amount, 3 the last day of its stage", TWO, """
                dispute(1, 7) -> 0
                chargebackOf(0, MIN) -> Argument
                chargebackOf(0, -1) -> Argument
                chargebackOf(0, 0) -> 0
                chargebackOf(0, 1) -> 1
                chargebackOf(0, 2) -> 7
                chargebackOf(0, 3) -> 10
                chargebackOf(0, 4) -> Argument
                chargebackOf(0, MAX) -> Argument
                """);
        Script.promise(15, "Throws `IndexOutOfBoundsException` if there is no such chargeback", """
                chargebackOf(0, 4) -> Index
                """, TWO, Script.times(59, "dispute(0, 1) -> #"), """
                chargebackOf(59, 0) -> Index
                chargebackOf(59, 4) -> Index
                dispute(0, 2) -> 59
                chargebackOf(59, 2) -> 2
                chargebackOf(60, 0) -> Index
                chargebackOf(60, -1) -> Index
                """);
        Script.promise(15, "Throws `IllegalArgumentException` if what is out of range", EVERY_STAGE, """
                chargebackOf(0, -1) -> Argument
                chargebackOf(4, 4) -> Argument
                """);
    }

    private static void lastDayOfStage() {
        Script.promise(15, "3 the last day of its stage; -1 if it is PRESSED, WON or LOST", TWO, """
                pass(1) -> 1
                dispute(0, 7) -> 0
                chargebackOf(0, 3) -> 11
                pass(1) -> 2
                chargebackOf(0, 3) -> 11
                answer(0) -> 12
                chargebackOf(0, 3) -> 12
                pass(1) -> 3
                chargebackOf(0, 3) -> 12
                press(0) -> 1
                chargebackOf(0, 3) -> -1
                rule(0, true) -> 3
                chargebackOf(0, 3) -> -1
                """);
        Script.promise(15, "3 the last day of its stage; -1 if it is PRESSED, WON or LOST", TWO, """
                dispute(0, 7) -> 0
                dispute(0, 7) -> 1
                dispute(0, 7) -> 2
                answer(0) -> 10
                press(0) -> 1
                rule(0, false) -> 4
                chargebackOf(0, 3) -> -1
                answer(1) -> 10
                pass(10) -> 10
                chargebackOf(1, 3) -> 10
                chargebackOf(2, 3) -> 10
                pass(1) -> 11
                chargebackOf(1, 3) -> -1
                chargebackOf(2, 3) -> -1
                """);
    }

    private static void due() {
        Script.promise(19, "Returns the next deadline of all chargebacks that are OPEN or ANSWERED.", EVERY_STAGE, """
                due(0) -> 1
                due(1) -> 0
                due(2) -> -1
                answer(0) -> 10
                due(0) -> 1
                due(1) -> 0
                press(1) -> 2
                due(0) -> 0
                due(1) -> -1
                pass(10) -> 10
                due(0) -> 0
                pass(1) -> 11
                due(0) -> -1
                """);
        Script.promise(19, "Returns the chargeback; -1 if there are not so many.", TWO, """
                due(0) -> -1
                due(1) -> -1
                dispute(0, 1) -> 0
                due(0) -> 0
                due(1) -> -1
                dispute(0, 1) -> 1
                due(1) -> 1
                due(2) -> -1
                """, Script.times(2, 60, "dispute(0, 1) -> #"), """
                due(0) -> 0
                due(58) -> 58
                due(59) -> 59
                due(60) -> -1
                due(61) -> -1
                due(MAX) -> -1
                """);
    }

    private static void dueOrder() {
        Script.promise(19, "- `rank`: 0 for the first one: by their last days", """
                authorise(3, 6, 200) -> 0
                capture(0, 200) -> 0
                pass(1) -> 1
                dispute(0, 10) -> 0
                answer(0) -> 11
                dispute(0, 1) -> 1
                pass(1) -> 2
                dispute(0, 99) -> 2
                answer(1) -> 12
                due(0) -> 0
                due(1) -> 2
                due(2) -> 1
                due(3) -> -1
                """);
        Script.promise(19, "of like ones by amounts, the greater ones first", """
                authorise(3, 6, 200) -> 0
                capture(0, 200) -> 0
                dispute(0, 10) -> 0
                dispute(0, 11) -> 1
                dispute(0, 9) -> 2
                dispute(0, 12) -> 3
                answer(2) -> 10
                due(0) -> 3
                due(1) -> 1
                due(2) -> 0
                due(3) -> 2
                due(4) -> -1
                """);
        Script.promise(19, "then by numbers", """
                authorise(3, 6, 200) -> 0
                capture(0, 100) -> 0
                capture(0, 100) -> 1
                dispute(1, 10) -> 0
                dispute(0, 10) -> 1
                dispute(1, 10) -> 2
                answer(0) -> 10
                answer(2) -> 10
                answer(1) -> 10
                due(0) -> 0
                due(1) -> 1
                due(2) -> 2
                due(3) -> -1
                """);
    }

    private static void dueThrows() {
        Script.promise(19, "Throws `IndexOutOfBoundsException` if rank is below 0", """
                due(MIN) -> Index
                due(-1) -> Index
                due(0) -> -1
                due(1) -> -1
                """, EVERY_STAGE, """
                due(-1) -> Index
                due(0) -> 1
                due(1) -> 0
                due(MIN) -> Index
                """);
    }
}
