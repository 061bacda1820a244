/** The sentences of promises 7, 8 and 14, and those of the terms on what is given back. */
final class GivenBackSentences {
    /** Card 3 of bank 1, shop 6 of bank 2, captures of 100 and 50 with fees of 1 and 0. */
    static final String TWO = """
            authorise(3, 6, 200) -> 0
            capture(0, 100) -> 0
            capture(0, 50) -> 1
            """;
    private static final String ANSWERED = "answer(0) -> 10\n";
    private static final String PRESSED = ANSWERED + "press(0) -> 1\n";
    private static final String WON = PRESSED + "rule(0, true) -> 3\n";
    private static final String LOST = PRESSED + "rule(0, false) -> 4\n";
    private static final String WON_BY_SILENCE = "pass(11) -> 11\n";
    private static final String LOST_BY_SILENCE = ANSWERED + "pass(11) -> 11\n";

    private GivenBackSentences() {
    }

    static void run() {
        refundsAndChargebacks();
        together();
        refundMoves();
        numbersOfChargebacks();
        refund();
        refundThrows();
        dispute();
        disputeThrows();
        captureOf();
        captureOfThrows();
    }

    private static void refundsAndChargebacks() {
        String sentence = "the amounts of its chargebacks that are OPEN, ANSWERED, PRESSED or WON";
        String disputed = "dispute(0, 60) -> 0\n";
        for (String stage : new String[] {"", ANSWERED, PRESSED, WON, WON_BY_SILENCE}) {
            Script.terms(14, sentence, TWO, disputed, stage, """
                    captureOf(0, 4) -> 60
                    captureOf(0, 3) -> 0
                    captureOf(1, 4) -> 0
                    refund(0, 41) -> State
                    dispute(0, 41) -> State
                    refund(0, 39) -> 99
                    refund(0, 2) -> State
                    dispute(0, 2) -> State
                    dispute(0, 1) -> 1
                    captureOf(0, 4) -> 100
                    refund(0, 1) -> State
                    dispute(0, 1) -> State
                    refund(1, 50) -> 50
                    """);
        }
        for (String stage : new String[] {LOST, LOST_BY_SILENCE}) {
            Script.terms(14, sentence, TWO, disputed, stage, """
                    captureOf(0, 4) -> 0
                    captureOf(0, 3) -> 0
                    refund(0, 101) -> State
                    dispute(0, 101) -> State
                    refund(0, 41) -> 41
                    dispute(0, 60) -> State
                    dispute(0, 59) -> 1
                    captureOf(0, 4) -> 100
                    refund(0, 1) -> State
                    """);
        }
    }

    private static void together() {
        Script.terms(7, "What is given back of a capture are its refunds", TWO, """
                captureOf(0, 4) -> 0
                refund(0, 1) -> 1
                captureOf(0, 4) -> 1
                refund(0, 98) -> 99
                refund(0, 2) -> State
                refund(0, 1) -> 100
                refund(0, 1) -> State
                captureOf(0, 4) -> 100
                captureOf(1, 4) -> 0
                """);
        Script.terms(8, "together, at most its amount.", TWO, """
                refund(0, 30) -> 30
                dispute(0, 30) -> 0
                dispute(0, 39) -> 1
                captureOf(0, 4) -> 99
                refund(0, 2) -> State
                dispute(0, 2) -> State
                refund(0, 1) -> 100
                dispute(0, 1) -> State
                """);
        Script.whole("and never give back what was given back already", TWO, """
                dispute(0, 100) -> 0
                refund(0, 1) -> State
                answer(0) -> 10
                refund(0, 1) -> State
                press(0) -> 1
                refund(0, 1) -> State
                rule(0, false) -> 4
                refund(0, 100) -> 100
                dispute(0, 1) -> State
                """);
    }

    private static void refundMoves() {
        Script.terms(17, "With a refund the bank of the shop pays the bank of the card the amount of it.", TWO, """
                net(2, true) -> 149
                refund(0, 1) -> 1
                net(2, true) -> 148
                net(1, true) -> -148
                refund(0, 99) -> 100
                net(2, true) -> 49
                net(1, true) -> -49
                net(2, false) -> 49
                net(0, true) -> 0
                net(3, true) -> 0
                netAnew(2) -> 49
                netAnew(1) -> -49
                captureOf(0, 2) -> 1
                """);
    }

    private static void numbersOfChargebacks() {
        Script.terms(8, "Chargebacks are numbered from 0, at most 60", TWO, Script.times(59, "dispute(0, 1) -> #"), """
                count(2) -> 59
                dispute(1, 1) -> 59
                count(2) -> 60
                dispute(0, 1) -> State
                dispute(1, 1) -> State
                count(2) -> 60
                captureOf(0, 4) -> 59
                chargebackOf(59, 1) -> 1
                chargebackOf(60, 0) -> Index
                """);
        Script.terms(8, "Chargebacks are numbered from 0, at most 60", TWO, Script.times(60, "dispute(0, 1) -> #"), """
                pass(11) -> 11
                dispute(0, 1) -> State
                refund(0, 1) -> 61
                """);
        Script.terms(8, "one is of a capture and an amount", TWO, """
                dispute(1, 49) -> 0
                chargebackOf(0, 1) -> 1
                chargebackOf(0, 2) -> 49
                captureOf(1, 4) -> 49
                captureOf(0, 4) -> 0
                """);
    }

    private static void refund() {
        Script.promise(7, "Refunds a part of a capture.", TWO, """
                refund(1, 20) -> 20
                captureOf(1, 3) -> 20
                captureOf(1, 4) -> 20
                captureOf(1, 1) -> 50
                captureOf(0, 3) -> 0
                paymentOf(0, 3) -> 150
                paymentOf(0, 5) -> 1
                count(1) -> 2
                pass(100) -> 100
                refund(0, 100) -> 100
                """);
        Script.promise(7, "- `capture`: a capture", """
                refund(0, 1) -> Index
                authorise(3, 6, 200) -> 0
                refund(0, 1) -> Index
                capture(0, 100) -> 0
                refund(1, 1) -> Index
                capture(0, 50) -> 1
                refund(MIN, 1) -> Index
                refund(-1, 1) -> Index
                refund(0, 1) -> 1
                refund(1, 1) -> 1
                refund(2, 1) -> Index
                refund(MAX, 1) -> Index
                """);
        Script.promise(7, "- `amount`: 1 to 100000", SetupSentences.RICH, """
                authorise(0, 0, 100000) -> 3
                capture(3, 100000) -> 3
                authorise(0, 0, 100000) -> 4
                capture(4, 100000) -> 4
                refund(3, MIN) -> Argument
                refund(3, -1) -> Argument
                refund(3, 0) -> Argument
                refund(3, 100001) -> Argument
                refund(3, MAX) -> Argument
                refund(3, 100000) -> 100000
                refund(4, 99999) -> 99999
                refund(4, 2) -> State
                refund(4, 1) -> 100000
                """);
        Script.promise(7, "Returns what is given back of it then.", TWO, """
                refund(0, 10) -> 10
                dispute(0, 20) -> 0
                refund(0, 1) -> 31
                answer(0) -> 10
                refund(0, 1) -> 32
                press(0) -> 1
                refund(0, 1) -> 33
                dispute(0, 5) -> 1
                refund(0, 1) -> 39
                rule(0, false) -> 4
                refund(0, 1) -> 20
                pass(11) -> 11
                refund(0, 80) -> 100
                refund(1, 1) -> 1
                """);
    }

    private static void refundThrows() {
        Script.promise(7, "Throws `IndexOutOfBoundsException` if there is no such capture", TWO, """
                refund(2, 1) -> Index
                refund(2, 0) -> Index
                refund(-1, 100001) -> Index
                refund(2, 101) -> Index
                """);
        Script.promise(7, "Throws `IllegalArgumentException` if amount is out of range", TWO, """
                refund(0, 0) -> Argument
                refund(0, 100001) -> Argument
                refund(0, 100000) -> State
                refund(0, 100) -> 100
                refund(0, 0) -> Argument
                refund(0, 100001) -> Argument
                """);
        Script.promise(7, "Throws `IllegalStateException` if more would be given back than its amount", TWO, """
                refund(1, 51) -> State
                refund(1, 49) -> 49
                refund(1, 2) -> State
                refund(1, 1) -> 50
                refund(1, 1) -> State
                dispute(0, 1) -> 0
                refund(0, 100) -> State
                refund(0, 99) -> 100
                """);
    }

    private static void dispute() {
        Script.promise(8, "Makes a chargeback.", TWO, """
                pass(3) -> 3
                dispute(1, 20) -> 0
                chargebackOf(0, 0) -> 0
                chargebackOf(0, 1) -> 1
                chargebackOf(0, 2) -> 20
                chargebackOf(0, 3) -> 13
                captureOf(1, 3) -> 0
                captureOf(1, 4) -> 20
                count(2) -> 1
                due(0) -> 0
                pass(100) -> 103
                dispute(1, 30) -> 1
                chargebackOf(1, 3) -> 113
                """);
        Script.promise(8, "- `capture`: a capture", """
                dispute(0, 1) -> Index
                authorise(3, 6, 200) -> 0
                dispute(0, 1) -> Index
                capture(0, 100) -> 0
                dispute(1, 1) -> Index
                capture(0, 50) -> 1
                dispute(MIN, 1) -> Index
                dispute(-1, 1) -> Index
                dispute(0, 1) -> 0
                dispute(1, 1) -> 1
                dispute(2, 1) -> Index
                dispute(MAX, 1) -> Index
                """);
        Script.promise(8, "- `amount`: 1 to 100000", SetupSentences.RICH, """
                authorise(0, 0, 100000) -> 3
                capture(3, 100000) -> 3
                authorise(0, 0, 100000) -> 4
                capture(4, 100000) -> 4
                dispute(3, MIN) -> Argument
                dispute(3, -1) -> Argument
                dispute(3, 0) -> Argument
                dispute(3, 100001) -> Argument
                dispute(3, MAX) -> Argument
                dispute(3, 100000) -> 0
                dispute(4, 99999) -> 1
                dispute(4, 2) -> State
                dispute(4, 1) -> 2
                """);
        Script.promise(8, "Returns its number.", TWO, """
                dispute(1, 1) -> 0
                dispute(0, 1) -> 1
                pass(11) -> 11
                dispute(1, 1) -> 2
                """);
    }

    private static void disputeThrows() {
        Script.promise(8, "Throws `IndexOutOfBoundsException` if there is no such capture", TWO, """
                dispute(2, 1) -> Index
                dispute(2, 0) -> Index
                dispute(-1, 100001) -> Index
                """, Script.times(60, "dispute(0, 1) -> #"), """
                dispute(2, 1) -> Index
                dispute(2, 0) -> Index
                """);
        Script.promise(8, "Throws `IllegalArgumentException` if amount is out of range", TWO, """
                dispute(0, 0) -> Argument
                dispute(0, 100001) -> Argument
                dispute(0, 100000) -> State
                """, Script.times(60, "dispute(0, 1) -> #"), """
                dispute(0, 0) -> Argument
                dispute(0, 100001) -> Argument
                """);
        Script.promise(8, "Throws `IllegalStateException` as told above", TWO, Script.times(60, "dispute(0, 1) -> #"),
                "dispute(0, 1) -> State", "dispute(1, 50) -> State");
        Script.promise(8, "or if more would be given back than its amount", TWO, """
                dispute(1, 51) -> State
                dispute(1, 49) -> 0
                dispute(1, 2) -> State
                dispute(1, 1) -> 1
                dispute(1, 1) -> State
                refund(0, 1) -> 1
                dispute(0, 100) -> State
                dispute(0, 99) -> 2
                """);
    }

    private static void captureOf() {
        Script.promise(14, "Returns something of a capture.", """
                authorise(0, 0, 10000) -> 0
                authorise(0, 0, 10000) -> 1
                capture(0, 300) -> 0
                capture(1, 400) -> 1
                captureOf(0, 0) -> 0
                captureOf(1, 0) -> 1
                captureOf(0, 1) -> 300
                captureOf(1, 1) -> 400
                captureOf(0, 2) -> 3
                captureOf(1, 2) -> 4
                """);
        Script.promise(14, "- `capture`: a capture", """
                captureOf(0, 0) -> Index
                authorise(3, 6, 200) -> 0
                captureOf(0, 0) -> Index
                capture(0, 100) -> 0
                captureOf(1, 0) -> Index
                capture(0, 50) -> 1
                captureOf(MIN, 1) -> Index
                captureOf(-1, 1) -> Index
                captureOf(0, 1) -> 100
                captureOf(1, 1) -> 50
                captureOf(2, 1) -> Index
                captureOf(MAX, 1) -> Index
                """);
        Script.promise(14, "- `what`: 0 the payment, 1 the amount, 2 the fee, 3 what was refunded, 4 what is given back", """
                authorise(0, 0, 10) -> 0
                """, "authorise(3, 6, 200) -> 1\ncapture(1, 199) -> 0\nrefund(0, 9) -> 9\ndispute(0, 20) -> 0\n", """
                captureOf(0, MIN) -> Argument
                captureOf(0, -1) -> Argument
                captureOf(0, 0) -> 1
                captureOf(0, 1) -> 199
                captureOf(0, 2) -> 1
                captureOf(0, 3) -> 9
                captureOf(0, 4) -> 29
                captureOf(0, 5) -> Argument
                captureOf(0, MAX) -> Argument
                """);
        Script.promise(14, "3 what was refunded, 4 what is given back", TWO, """
                dispute(0, 100) -> 0
                captureOf(0, 3) -> 0
                captureOf(0, 4) -> 100
                answer(0) -> 10
                captureOf(0, 4) -> 100
                pass(10) -> 10
                captureOf(0, 4) -> 100
                pass(1) -> 11
                captureOf(0, 4) -> 0
                refund(0, 100) -> 100
                captureOf(0, 3) -> 100
                captureOf(0, 4) -> 100
                """);
    }

    private static void captureOfThrows() {
        Script.promise(14, "Throws `IndexOutOfBoundsException` if there is no such capture", """
                captureOf(0, 5) -> Index
                """, "authorise(0, 0, 1000) -> 0", Script.times(99, "capture(0, 2) -> #"), """
                captureOf(99, 1) -> Index
                captureOf(99, 5) -> Index
                capture(0, 2) -> 99
                captureOf(99, 1) -> 2
                captureOf(100, 1) -> Index
                captureOf(100, -1) -> Index
                """);
        Script.promise(14, "Throws `IllegalArgumentException` if what is out of range", TWO, """
                captureOf(0, -1) -> Argument
                captureOf(1, 5) -> Argument
                """);
    }
}
