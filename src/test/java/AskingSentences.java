/** The sentences of promises 17, 18 and 20, the terms on nets, and what is said of the whole. */
final class AskingSentences {
    private static final String TWO = GivenBackSentences.TWO;

    private AskingSentences() {
    }

    static void run() {
        netOfADay();
        netOfADayByBanks();
        netInAll();
        netAddsUp();
        netOfOneBank();
        net();
        netAnew();
        netAnewByStage();
        count();
        countThrows();
        longestRun();
    }

    private static void netOfADay() {
        Script.terms(17, "The net of a bank is what it was paid less what it paid, on a day", TWO, """
                net(2, false) -> 149
                net(1, false) -> -149
                pass(1) -> 1
                net(2, false) -> 0
                net(1, false) -> 0
                refund(0, 9) -> 9
                net(2, false) -> -9
                net(1, false) -> 9
                pass(1) -> 2
                dispute(0, 20) -> 0
                net(2, false) -> -20
                pass(1) -> 3
                answer(0) -> 13
                net(2, false) -> 20
                net(1, false) -> -20
                pass(1) -> 4
                press(0) -> 1
                net(2, false) -> -20
                pass(1) -> 5
                rule(0, false) -> 4
                net(2, false) -> 20
                dispute(0, 1) -> 1
                net(2, false) -> 19
                net(1, false) -> -19
                pass(1) -> 6
                capture(0, 50) -> 2
                net(2, false) -> 50
                net(0, false) -> 0
                net(3, false) -> 0
                pass(100) -> 106
                net(2, false) -> 0
                """);
    }

    /** Each bank is paid, and pays, on the day before and on the day itself. */
    private static void netOfADayByBanks() {
        Script.terms(17, "on a day", """
                authorise(0, 1, 1000) -> 0
                authorise(3, 2, 1000) -> 1
                authorise(6, 3, 1000) -> 2
                authorise(9, 4, 1000) -> 3
                capture(0, 99) -> 0
                capture(1, 98) -> 1
                capture(2, 96) -> 2
                capture(3, 92) -> 3
                net(0, false) -> -7
                net(1, false) -> 1
                net(2, false) -> 2
                net(3, false) -> 4
                pass(1) -> 1
                net(0, false) -> 0
                net(1, false) -> 0
                net(2, false) -> 0
                net(3, false) -> 0
                capture(0, 1) -> 4
                capture(1, 3) -> 5
                capture(2, 7) -> 6
                capture(3, 15) -> 7
                net(0, false) -> 14
                net(1, false) -> -2
                net(2, false) -> -4
                net(3, false) -> -8
                net(0, true) -> 7
                net(1, true) -> -1
                net(2, true) -> -2
                net(3, true) -> -4
                pass(2) -> 3
                net(0, false) -> 0
                net(1, false) -> 0
                net(2, false) -> 0
                net(3, false) -> 0
                """);
    }

    private static void netInAll() {
        Script.terms(17, "or in all.", TWO, """
                net(2, true) -> 149
                pass(1) -> 1
                net(2, true) -> 149
                refund(0, 9) -> 9
                net(2, true) -> 140
                pass(1) -> 2
                dispute(0, 20) -> 0
                net(2, true) -> 120
                answer(0) -> 12
                net(2, true) -> 140
                press(0) -> 1
                net(2, true) -> 120
                rule(0, false) -> 4
                net(2, true) -> 140
                net(1, true) -> -140
                pass(100) -> 102
                net(2, true) -> 140
                net(1, true) -> -140
                """);
    }

    private static void netAddsUp() {
        Script.whole("nets of banks that add up to nothing", """
                authorise(0, 1, 1000) -> 0
                authorise(3, 2, 1000) -> 1
                authorise(6, 3, 1000) -> 2
                authorise(9, 4, 1000) -> 3
                capture(0, 1000) -> 0
                capture(1, 500) -> 1
                capture(2, 200) -> 2
                capture(3, 100) -> 3
                net(0, true) -> -891
                net(1, true) -> 495
                net(2, true) -> 297
                net(3, true) -> 99
                refund(0, 100) -> 100
                dispute(1, 50) -> 0
                dispute(2, 20) -> 1
                answer(1) -> 10
                net(0, true) -> -791
                net(1, true) -> 445
                net(2, true) -> 247
                net(3, true) -> 99
                netAnew(0) -> -791
                netAnew(1) -> 445
                netAnew(2) -> 247
                netAnew(3) -> 99
                """);
    }

    private static void netOfOneBank() {
        Script.terms(17, "The net of a bank is what it was paid less what it paid", """
                authorise(3, 5, 1000) -> 0
                capture(0, 1000) -> 0
                refund(0, 100) -> 100
                dispute(0, 10) -> 0
                dispute(0, 20) -> 1
                answer(1) -> 10
                net(1, true) -> 0
                net(1, false) -> 0
                netAnew(1) -> 0
                press(1) -> 1
                net(1, true) -> 0
                netAnew(1) -> 0
                rule(1, false) -> 4
                net(1, true) -> 0
                netAnew(1) -> 0
                pass(11) -> 11
                net(1, true) -> 0
                netAnew(1) -> 0
                """);
    }

    private static void net() {
        Script.promise(17, "Returns the net of a bank.", TWO, """
                net(0, true) -> 0
                net(1, true) -> -149
                net(2, true) -> 149
                net(3, true) -> 0
                """);
        for (String isAll : new String[] {"true", "false"}) {
            Script.promise(17, "- `bank`: 0 to 3", "authorise(0, 3, 100) -> 0\ncapture(0, 100) -> 0\n".concat("""
                    net(MIN, is) -> Index
                    net(-1, is) -> Index
                    net(0, is) -> -99
                    net(1, is) -> 0
                    net(2, is) -> 0
                    net(3, is) -> 99
                    net(4, is) -> Index
                    net(MAX, is) -> Index
                    """).replace("is)", isAll + ")"));
            Script.promise(17, "Throws `IndexOutOfBoundsException` if there is no such bank",
                    "net(4, " + isAll + ") -> Index", "net(-1, " + isAll + ") -> Index", TWO,
                    "net(4, " + isAll + ") -> Index", "net(-1, " + isAll + ") -> Index");
        }
        Script.promise(17, "- `isAll`: whether it is that in all, or of the present day", TWO, """
                pass(1) -> 1
                net(2, true) -> 149
                net(2, false) -> 0
                capture(0, 1) -> 2
                net(2, true) -> 150
                net(2, false) -> 1
                """);
        Script.promise(17, "Returns the cents.", SetupSentences.RICH, Script.times(3, 8, "authorise(0, 1, 100000) -> #"),
                Script.times(3, 8, "capture(#, 100000) -> #"), """
                net(0, true) -> -497500
                net(1, true) -> 497500
                netAnew(0) -> -497500
                netAnew(1) -> 497500
                """);
    }

    private static void netAnew() {
        Script.promise(18, "Returns the net of a bank in all, found anew from captures, refunds and chargebacks as they stand.",
                TWO, """
                netAnew(2) -> 149
                refund(0, 9) -> 9
                netAnew(2) -> 140
                netAnew(1) -> -140
                kind(0, 100, 9999) -> 1000
                shop(6, 1) -> 0
                netAnew(2) -> 140
                pass(5) -> 5
                netAnew(2) -> 140
                cancel(0) -> 50
                netAnew(2) -> 140
                netAnew(0) -> 0
                netAnew(3) -> 0
                """);
        Script.promise(18, "- `bank`: 0 to 3", """
                authorise(0, 3, 100) -> 0
                capture(0, 100) -> 0
                netAnew(MIN) -> Index
                netAnew(-1) -> Index
                netAnew(0) -> -99
                netAnew(1) -> 0
                netAnew(2) -> 0
                netAnew(3) -> 99
                netAnew(4) -> Index
                netAnew(MAX) -> Index
                """);
        Script.promise(18, "Throws `IndexOutOfBoundsException` if there is no such bank",
                "netAnew(4) -> Index", "netAnew(-1) -> Index", TWO, "netAnew(4) -> Index", "netAnew(-1) -> Index");
        Script.promise(18, "Returns the cents.", SetupSentences.RICH, Script.times(3, 8, "authorise(11, 0, 10000) -> #"),
                Script.times(3, 8, "capture(#, 10000) -> #"), """
                netAnew(3) -> -49500
                netAnew(0) -> 49500
                net(3, true) -> -49500
                """);
    }

    private static void netAnewByStage() {
        Script.promise(18, "found anew from captures, refunds and chargebacks as they stand.", TWO, """
                dispute(0, 40) -> 0
                netAnew(2) -> 109
                netAnew(1) -> -109
                answer(0) -> 10
                netAnew(2) -> 149
                netAnew(1) -> -149
                press(0) -> 1
                netAnew(2) -> 109
                netAnew(1) -> -109
                rule(0, true) -> 3
                netAnew(2) -> 109
                netAnew(1) -> -109
                dispute(0, 30) -> 1
                answer(1) -> 10
                press(1) -> 1
                rule(1, false) -> 4
                netAnew(2) -> 109
                netAnew(1) -> -109
                dispute(0, 20) -> 2
                dispute(0, 10) -> 3
                answer(3) -> 10
                netAnew(2) -> 89
                pass(10) -> 10
                netAnew(2) -> 89
                pass(1) -> 11
                netAnew(2) -> 89
                netAnew(1) -> -89
                net(2, true) -> 89
                """);
    }

    private static void count() {
        Script.promise(20, "Counts.", """
                count(0) -> 0
                count(1) -> 0
                count(2) -> 0
                count(3) -> 0
                count(4) -> 0
                authorise(0, 1, 10000) -> 0
                count(0) -> 1
                capture(0, 99) -> 0
                count(1) -> 1
                count(3) -> 0
                capture(0, 100) -> 1
                count(1) -> 2
                count(3) -> 1
                capture(0, 199) -> 2
                count(3) -> 2
                dispute(0, 1) -> 0
                count(2) -> 1
                pass(1) -> 1
                count(4) -> 1
                """);
        Script.promise(20, "- `what`: 0 payments, 1 captures, 2 chargebacks, 3 cents of fees, 4 the day", """
                authorise(0, 1, 1000) -> 0
                authorise(1, 1, 1000) -> 1
                authorise(1, 1, 10001) -> -1
                capture(0, 700) -> 0
                capture(0, 100) -> 1
                capture(1, 1) -> 2
                dispute(0, 1) -> 0
                pass(12) -> 12
                count(MIN) -> Argument
                count(-1) -> Argument
                count(0) -> 2
                count(1) -> 3
                count(2) -> 1
                count(3) -> 8
                count(4) -> 12
                count(5) -> Argument
                count(MAX) -> Argument
                """);
        Script.promise(20, "Returns how many.", """
                authorise(0, 1, 1000) -> 0
                authorise(0, 1, 1000) -> 1
                capture(0, 1000) -> 0
                cancel(1) -> 1000
                refund(0, 900) -> 900
                dispute(0, 100) -> 0
                answer(0) -> 10
                pass(11) -> 11
                kind(0, 0, 0) -> 0
                count(0) -> 2
                count(1) -> 1
                count(2) -> 1
                count(3) -> 10
                count(4) -> 11
                """);
    }

    private static void countThrows() {
        Script.promise(20, "Throws `IllegalArgumentException` if what is out of range", """
                count(-1) -> Argument
                count(5) -> Argument
                """, TWO, """
                count(-1) -> Argument
                count(0) -> 1
                count(4) -> 0
                count(5) -> Argument
                """);
    }

    /** As many payments, captures and chargebacks as there may be, and 512 calls together. */
    private static void longestRun() {
        Script.whole("An object is used for at most 512 calls after it has been made", Script.times(60, "authorise(0, 1, 100) -> #"),
                Script.times(60, "capture(#, 50) -> #"), captures(), Script.times(60, "dispute(#, 10) -> #"),
                Script.times(60, "answer(#) -> 10"), presses(), rulings(), refunds(), """
                pass(100) -> 100
                count(0) -> 60
                count(1) -> 100
                count(2) -> 60
                count(3) -> 0
                net(0, true) -> -4600
                net(1, true) -> 4600
                due(0) -> -1
                limit(0) -> 500
                paymentOf(59, 3) -> 50
                captureOf(99, 4) -> 1
                netAnew(1) -> 4600
                """);
        Script.whole("An object is used for at most 512 calls after it has been made", Script.times(511, "pass(100)"),
                "pass(100) -> 51200");
    }

    private static String captures() {
        return Script.times(40, "capture(#, 50)");
    }

    private static String presses() {
        StringBuilder rows = new StringBuilder();
        for (int i = 0; i < 60; i++) {
            rows.append("press(" + i + ") -> " + (i + 1) + "\n");
        }
        return rows.toString();
    }

    /** For the card if the number is even. */
    private static String rulings() {
        StringBuilder rows = new StringBuilder();
        for (int i = 0; i < 60; i++) {
            rows.append("rule(" + i + ", " + (i % 2 == 0) + ") -> " + (i % 2 == 0 ? 3 : 4) + "\n");
        }
        return rows.toString();
    }

    private static String refunds() {
        StringBuilder rows = new StringBuilder();
        for (int i = 0; i < 100; i++) {
            rows.append("refund(" + i + ", 1) -> " + (i < 60 && i % 2 == 0 ? 11 : 1) + "\n");
        }
        return rows.toString();
    }
}
