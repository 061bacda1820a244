/** The sentences of promises 4 to 6, 13 and 16, and those of the terms on payments, limits and captures. */
final class PaymentSentences {
    private static final String RICH = SetupSentences.RICH;
    private static final String SIXTY = Script.times(60, "authorise(0, 0, 100) -> #");

    private PaymentSentences() {
    }

    static void run() {
        numbersOfPayments();
        underTheLimit();
        limitOfTheLatest();
        limitCut();
        leastLimit();
        limitWithoutCaptures();
        daysToCapture();
        partsTogether();
        madeVoid();
        numbersOfCaptures();
        feeIsCut();
        feeIsCapped();
        feeAsTheyAreThen();
        captureMoves();
        authorise();
        authoriseAnswers();
        authoriseThrows();
        capture();
        captureThrows();
        cancel();
        cancelThrows();
        paymentOf();
        paymentOfLeft();
        limit();
    }

    private static void numbersOfPayments() {
        Script.terms(4, "Payments are numbered from 0, at most 60", Script.times(59, "authorise(3, 0, 1) -> #"), """
                count(0) -> 59
                authorise(3, 0, 1) -> 59
                count(0) -> 60
                authorise(3, 0, 1) -> State
                count(0) -> 60
                paymentOf(59, 2) -> 1
                paymentOf(60, 2) -> Index
                """);
        Script.terms(4, "Payments are numbered from 0, at most 60", SIXTY, """
                cancel(0) -> 100
                authorise(0, 0, 1) -> State
                pass(8) -> 8
                authorise(0, 0, 1) -> State
                pass(100) -> 108
                authorise(11, 7, 1) -> State
                """);
    }

    private static void underTheLimit() {
        Script.terms(4, "one is authorised for an amount, if that is not above the limit of the card.", """
                authorise(2, 0, 9999) -> 0
                authorise(2, 0, 10000) -> 1
                authorise(2, 0, 10001) -> -1
                count(0) -> 2
                capture(0, 400) -> 0
                authorise(2, 0, 1199) -> 2
                authorise(2, 0, 1200) -> 3
                authorise(2, 0, 1201) -> -1
                authorise(3, 0, 1201) -> 4
                capture(1, 1) -> 1
                authorise(2, 0, 600) -> 5
                authorise(2, 0, 601) -> 6
                authorise(2, 0, 602) -> -1
                capture(1, 1) -> 2
                capture(1, 1) -> 3
                authorise(2, 0, 499) -> 7
                authorise(2, 0, 500) -> 8
                authorise(2, 0, 501) -> -1
                count(0) -> 9
                """);
    }

    private static void limitOfTheLatest() {
        Script.terms(16, "The limit is 3 times the mean of the latest 5 captures of the card, or of all, if they are fewer", """
                authorise(0, 0, 10000) -> 0
                authorise(0, 1, 10000) -> 1
                authorise(1, 0, 10000) -> 2
                capture(1, 1000) -> 0
                limit(0) -> 3000
                capture(0, 2000) -> 1
                limit(0) -> 4500
                capture(2, 9000) -> 2
                limit(0) -> 4500
                capture(1, 300) -> 3
                limit(0) -> 3300
                capture(0, 400) -> 4
                limit(0) -> 2775
                capture(1, 501) -> 5
                limit(0) -> 2520
                capture(1, 6) -> 6
                limit(0) -> 1924
                capture(0, 7) -> 7
                limit(0) -> 728
                limit(1) -> 27000
                limit(2) -> 10000
                """);
        Script.terms(16, "The limit is 3 times the mean of the latest 5 captures of the card", """
                authorise(5, 0, 10000) -> 0
                authorise(5, 0, 10000) -> 1
                capture(0, 5000) -> 0
                """, Script.times(1, 5, "capture(0, 500) -> #"), """
                limit(5) -> 4200
                capture(1, 500) -> 5
                limit(5) -> 1500
                capture(1, 500) -> 6
                limit(5) -> 1500
                cancel(0) -> 3000
                refund(6, 500) -> 500
                dispute(5, 500) -> 0
                pass(100) -> 100
                limit(5) -> 1500
                """);
    }

    private static void limitCut() {
        String cut = "the product divided by how many they are, cut";
        int[][] captures = {{300, 300}, {300, 301}, {301, 301}};
        int[] due = {900, 901, 903};
        for (int i = 0; i < 3; i++) {
            Script.terms(16, cut, limitBehind(captures[i], due[i]));
        }
        int[][] fours = {{250, 250, 250, 250}, {250, 250, 250, 251}, {250, 250, 251, 251}, {250, 251, 251, 251}};
        int[] dueOfFours = {750, 750, 751, 752};
        for (int i = 0; i < 4; i++) {
            Script.terms(16, cut, limitBehind(fours[i], dueOfFours[i]));
        }
        for (int more = 0; more < 6; more++) {
            int[] dueOfFives = {600, 600, 601, 601, 602, 603};
            Script.terms(16, cut, limitBehind(new int[] {200, 200, 200, 200, 200 + more}, dueOfFives[more]));
        }
    }

    private static String limitBehind(int[] captures, int due) {
        StringBuilder rows = new StringBuilder("authorise(7, 0, 10000) -> 0\n");
        for (int i = 0; i < captures.length; i++) {
            rows.append("capture(0, " + captures[i] + ") -> " + i + "\n");
        }
        return rows + "limit(7) -> " + due + "\nauthorise(7, 0, " + due + ") -> 1\nauthorise(7, 0, " + (due + 1) + ") -> -1";
    }

    private static void leastLimit() {
        String least = "but 500 at least";
        Script.terms(16, least, limitBehind(new int[] {1}, 500));
        Script.terms(16, least, limitBehind(new int[] {166}, 500));
        Script.terms(16, least, limitBehind(new int[] {167}, 501));
        Script.terms(16, least, limitBehind(new int[] {166, 167}, 500));
        Script.terms(16, least, limitBehind(new int[] {167, 167}, 501));
        Script.terms(16, least, limitBehind(new int[] {166, 166, 167}, 500));
        Script.terms(16, least, limitBehind(new int[] {166, 167, 167}, 500));
        Script.terms(16, least, limitBehind(new int[] {167, 167, 167}, 501));
    }

    private static void limitWithoutCaptures() {
        Script.terms(16, "and 10000 without any.", """
                limit(4) -> 10000
                authorise(4, 0, 10000) -> 0
                authorise(4, 0, 1) -> 1
                authorise(3, 0, 1) -> 2
                capture(2, 1) -> 0
                limit(4) -> 10000
                cancel(1) -> 1
                pass(5) -> 5
                limit(4) -> 10000
                capture(0, 3333) -> 1
                limit(4) -> 9999
                """);
        Script.terms(16, "and 10000 without any.", """
                authorise(4, 0, 10000) -> 0
                capture(0, 3334) -> 0
                limit(4) -> 10002
                limit(5) -> 10000
                """);
    }

    private static void daysToCapture() {
        String until = "up to the day that is 7 days behind that of the authorising";
        Script.terms(5, until, """
                pass(3) -> 3
                authorise(0, 0, 100) -> 0
                paymentOf(0, 4) -> 10
                capture(0, 1) -> 0
                pass(6) -> 9
                capture(0, 1) -> 1
                cancel(0) -> 98
                """);
        Script.terms(5, until, """
                pass(3) -> 3
                authorise(0, 0, 100) -> 0
                authorise(0, 0, 100) -> 1
                pass(7) -> 10
                paymentOf(0, 5) -> 1
                capture(0, 1) -> 0
                cancel(1) -> 100
                cancel(0) -> 99
                """);
        Script.terms(5, until, """
                pass(3) -> 3
                authorise(0, 0, 100) -> 0
                capture(0, 1) -> 0
                pass(8) -> 11
                paymentOf(0, 5) -> 0
                capture(0, 1) -> State
                cancel(0) -> State
                """);
        Script.terms(5, until, """
                authorise(0, 0, 100) -> 0
                pass(1) -> 1
                authorise(0, 0, 100) -> 1
                pass(7) -> 8
                capture(0, 1) -> State
                capture(1, 1) -> 0
                pass(1) -> 9
                capture(1, 1) -> State
                """);
    }

    private static void partsTogether() {
        Script.terms(5, "A payment may be captured in parts", """
                authorise(0, 0, 100) -> 0
                authorise(0, 0, 100) -> 1
                capture(0, 1) -> 0
                capture(1, 100) -> 1
                capture(0, 1) -> 2
                paymentOf(0, 3) -> 2
                paymentOf(1, 3) -> 100
                """);
        Script.terms(5, "and up to its amount together", """
                authorise(0, 0, 100) -> 0
                capture(0, 101) -> State
                capture(0, 60) -> 0
                capture(0, 41) -> State
                capture(0, 39) -> 1
                capture(0, 2) -> State
                capture(0, 1) -> 2
                capture(0, 1) -> State
                paymentOf(0, 3) -> 100
                """);
        Script.terms(5, "and up to its amount together", """
                authorise(0, 0, 100) -> 0
                capture(0, 60) -> 0
                capture(0, 40) -> 1
                capture(0, 1) -> State
                refund(0, 60) -> 60
                capture(0, 1) -> State
                dispute(1, 40) -> 0
                capture(0, 1) -> State
                """);
    }

    private static void madeVoid() {
        Script.terms(6, "or made void, for what is not captured.", """
                authorise(0, 1, 1000) -> 0
                capture(0, 400) -> 0
                cancel(0) -> 600
                paymentOf(0, 2) -> 1000
                paymentOf(0, 3) -> 400
                paymentOf(0, 4) -> 7
                paymentOf(0, 5) -> 0
                captureOf(0, 1) -> 400
                net(1, true) -> 396
                limit(0) -> 1200
                capture(0, 1) -> State
                refund(0, 400) -> 400
                """);
    }

    private static void numbersOfCaptures() {
        Script.terms(5, "Captures are numbered from 0, at most 100.", "authorise(0, 0, 10000) -> 0",
                Script.times(99, "capture(0, 1) -> #"), """
                count(1) -> 99
                capture(0, 1) -> 99
                count(1) -> 100
                capture(0, 1) -> State
                count(1) -> 100
                paymentOf(0, 3) -> 100
                captureOf(99, 1) -> 1
                captureOf(100, 1) -> Index
                authorise(1, 0, 10) -> 1
                capture(1, 10) -> State
                """);
    }

    private static void feeIsCut() {
        Script.terms(14, "the amount times the rate of the kind, by 1000, cut", """
                authorise(0, 0, 10000) -> 0
                capture(0, 99) -> 0
                capture(0, 100) -> 1
                capture(0, 101) -> 2
                capture(0, 199) -> 3
                capture(0, 200) -> 4
                capture(0, 201) -> 5
                captureOf(0, 2) -> 0
                captureOf(1, 2) -> 1
                captureOf(2, 2) -> 1
                captureOf(3, 2) -> 1
                captureOf(4, 2) -> 2
                captureOf(5, 2) -> 2
                count(3) -> 7
                kind(0, 7, 9999) -> 70
                capture(0, 142) -> 6
                capture(0, 143) -> 7
                capture(0, 144) -> 8
                captureOf(6, 2) -> 0
                captureOf(7, 2) -> 1
                captureOf(8, 2) -> 1
                kind(0, 0, 9999) -> 0
                capture(0, 1000) -> 9
                captureOf(9, 2) -> 0
                """);
    }

    private static void feeIsCapped() {
        Script.terms(14, "but at most the cap", """
                kind(0, 10, 7) -> 7
                authorise(0, 0, 10000) -> 0
                capture(0, 699) -> 0
                capture(0, 700) -> 1
                capture(0, 799) -> 2
                capture(0, 800) -> 3
                capture(0, 801) -> 4
                captureOf(0, 2) -> 6
                captureOf(1, 2) -> 7
                captureOf(2, 2) -> 7
                captureOf(3, 2) -> 7
                captureOf(4, 2) -> 7
                kind(0, 100, 0) -> 0
                capture(0, 800) -> 5
                captureOf(5, 2) -> 0
                kind(0, 100, 1) -> 1
                capture(0, 800) -> 6
                captureOf(6, 2) -> 1
                """);
    }

    private static void feeAsTheyAreThen() {
        Script.terms(14, "both as they are then.", """
                authorise(0, 1, 10000) -> 0
                kind(0, 20, 500) -> 200
                capture(0, 100) -> 0
                kind(0, 20, 1) -> 1
                capture(0, 100) -> 1
                kind(0, 30, 500) -> 300
                capture(0, 100) -> 2
                kind(1, 40, 500) -> 400
                capture(0, 100) -> 3
                shop(1, 1) -> 0
                capture(0, 100) -> 4
                shop(1, 2) -> 1
                capture(0, 100) -> 5
                captureOf(0, 2) -> 2
                captureOf(1, 2) -> 1
                captureOf(2, 2) -> 3
                captureOf(3, 2) -> 3
                captureOf(4, 2) -> 4
                captureOf(5, 2) -> 1
                count(3) -> 14
                net(1, true) -> 586
                netAnew(1) -> 586
                """);
    }

    private static void captureMoves() {
        Script.terms(17, "With a capture the bank of the card pays the bank of the shop the amount less the fee", """
                authorise(3, 2, 1000) -> 0
                net(1, true) -> 0
                capture(0, 99) -> 0
                net(1, true) -> -99
                net(2, true) -> 99
                capture(0, 100) -> 1
                net(1, true) -> -198
                net(2, true) -> 198
                net(0, true) -> 0
                net(3, true) -> 0
                net(2, false) -> 198
                netAnew(2) -> 198
                netAnew(1) -> -198
                """);
        Script.terms(17, "With a capture the bank of the card pays the bank of the shop the amount less the fee", """
                authorise(3, 1, 1000) -> 0
                capture(0, 1000) -> 0
                net(1, true) -> 0
                net(1, false) -> 0
                netAnew(1) -> 0
                captureOf(0, 2) -> 10
                """);
    }

    private static void authorise() {
        Script.promise(4, "Authorises a payment.", """
                authorise(10, 6, 123) -> 0
                paymentOf(0, 0) -> 10
                paymentOf(0, 1) -> 6
                paymentOf(0, 2) -> 123
                paymentOf(0, 3) -> 0
                paymentOf(0, 4) -> 7
                paymentOf(0, 5) -> 1
                net(3, true) -> 0
                net(2, true) -> 0
                limit(10) -> 10000
                """);
        Script.promise(4, "- `card`: 0 to 11", """
                authorise(MIN, 0, 1) -> Index
                authorise(-1, 0, 1) -> Index
                authorise(0, 0, 1) -> 0
                authorise(1, 0, 1) -> 1
                authorise(10, 0, 1) -> 2
                authorise(11, 0, 1) -> 3
                authorise(12, 0, 1) -> Index
                authorise(MAX, 0, 1) -> Index
                """);
        Script.promise(4, "- `shop`: 0 to 7", """
                authorise(0, MIN, 1) -> Index
                authorise(0, -1, 1) -> Index
                authorise(0, 0, 1) -> 0
                authorise(0, 1, 1) -> 1
                authorise(0, 6, 1) -> 2
                authorise(0, 7, 1) -> 3
                authorise(0, 8, 1) -> Index
                authorise(0, MAX, 1) -> Index
                """);
        Script.promise(4, "- `amount`: 1 to 100000", RICH, """
                authorise(0, 0, 99999) -> 3
                authorise(0, 0, 100000) -> 4
                authorise(0, 0, 100001) -> Argument
                capture(4, 100000) -> 3
                limit(0) -> 150000
                authorise(0, 0, 100000) -> 5
                authorise(0, 0, 100001) -> Argument
                authorise(0, 0, MAX) -> Argument
                authorise(0, 0, MIN) -> Argument
                authorise(0, 0, -1) -> Argument
                authorise(0, 0, 0) -> Argument
                authorise(0, 0, 1) -> 6
                authorise(0, 0, 2) -> 7
                """);
    }

    private static void authoriseAnswers() {
        Script.promise(4, "Returns its number; -1 if it is above the limit", """
                authorise(0, 0, 10001) -> -1
                count(0) -> 0
                authorise(0, 0, 10000) -> 0
                authorise(0, 0, 10001) -> -1
                authorise(0, 0, 100000) -> -1
                authorise(0, 0, 9999) -> 1
                count(0) -> 2
                """);
        Script.promise(4, "(with 60 payments an exception goes ahead of that)",
                Script.times(58, "authorise(0, 0, 100) -> #"), """
                authorise(0, 0, 10001) -> -1
                authorise(0, 0, 100) -> 58
                authorise(0, 0, 10001) -> -1
                authorise(0, 0, 10000) -> 59
                authorise(0, 0, 10001) -> State
                authorise(0, 0, 10000) -> State
                authorise(0, 0, 9999) -> State
                """);
    }

    private static void authoriseThrows() {
        Script.promise(4, "Throws `IndexOutOfBoundsException` if there is no such card or shop", """
                authorise(12, 0, 10001) -> Index
                authorise(0, 8, 10001) -> Index
                authorise(12, 0, 0) -> Index
                authorise(0, 8, 100001) -> Index
                authorise(-1, -1, -1) -> Index
                """, SIXTY, """
                authorise(12, 0, 1) -> Index
                authorise(0, -1, 0) -> Index
                """);
        Script.promise(4, "Throws `IllegalArgumentException` if amount is out of range", """
                authorise(0, 0, 0) -> Argument
                authorise(0, 0, 100001) -> Argument
                """, SIXTY, """
                authorise(0, 0, 0) -> Argument
                authorise(0, 0, 100001) -> Argument
                authorise(0, 0, 100000) -> State
                """);
        Script.promise(4, "Throws `IllegalStateException` as told above", SIXTY, """
                authorise(0, 0, 1) -> State
                authorise(11, 7, 100) -> State
                """);
    }

    private static void capture() {
        Script.promise(5, "Captures a part of a payment.", """
                authorise(0, 1, 100) -> 0
                authorise(0, 2, 100) -> 1
                capture(1, 40) -> 0
                captureOf(0, 0) -> 1
                captureOf(0, 1) -> 40
                captureOf(0, 2) -> 0
                captureOf(0, 3) -> 0
                captureOf(0, 4) -> 0
                paymentOf(0, 3) -> 0
                paymentOf(1, 3) -> 40
                count(1) -> 1
                """);
        Script.promise(5, "- `payment`: a payment", """
                capture(0, 1) -> Index
                authorise(0, 0, 100) -> 0
                capture(1, 1) -> Index
                authorise(0, 0, 100) -> 1
                capture(MIN, 1) -> Index
                capture(-1, 1) -> Index
                capture(0, 1) -> 0
                capture(1, 1) -> 1
                capture(2, 1) -> Index
                capture(MAX, 1) -> Index
                """);
        Script.promise(5, "- `amount`: 1 to 100000", RICH, """
                authorise(0, 0, 100000) -> 3
                authorise(0, 0, 100000) -> 4
                capture(3, MIN) -> Argument
                capture(3, -1) -> Argument
                capture(3, 0) -> Argument
                capture(3, 100001) -> Argument
                capture(3, MAX) -> Argument
                capture(3, 100000) -> 3
                capture(4, 99999) -> 4
                capture(4, 2) -> State
                capture(4, 1) -> 5
                """);
        Script.promise(5, "Returns the number of the capture.", """
                authorise(0, 1, 100) -> 0
                authorise(5, 3, 100) -> 1
                capture(1, 1) -> 0
                capture(0, 1) -> 1
                capture(1, 1) -> 2
                """);
    }

    private static void captureThrows() {
        String twoPayments = "authorise(0, 0, 100) -> 0\nauthorise(0, 0, 100) -> 1\n";
        Script.promise(5, "Throws `IndexOutOfBoundsException` if there is no such payment", """
                capture(0, 1) -> Index
                capture(0, 0) -> Index
                """, twoPayments, """
                capture(2, 1) -> Index
                capture(2, 0) -> Index
                capture(-1, 100001) -> Index
                capture(2, 101) -> Index
                """);
        Script.promise(5, "Throws `IllegalArgumentException` if amount is out of range", twoPayments, """
                capture(0, 0) -> Argument
                capture(0, 100001) -> Argument
                capture(0, 100000) -> State
                cancel(0) -> 100
                capture(0, 0) -> Argument
                pass(8) -> 8
                capture(1, 100001) -> Argument
                """);
        Script.promise(5, "Throws `IllegalStateException` as told above", "authorise(0, 0, 1000) -> 0",
                Script.times(99, "capture(0, 1) -> #"), """
                capture(0, 0) -> Argument
                capture(0, 1) -> 99
                capture(0, 1) -> State
                capture(0, 0) -> Argument
                capture(1, 1) -> Index
                """);
        Script.promise(5, "if it has expired", twoPayments, """
                pass(7) -> 7
                capture(0, 1) -> 0
                pass(1) -> 8
                capture(0, 1) -> State
                capture(1, 100) -> State
                """);
        Script.promise(5, "is void", twoPayments, """
                capture(0, 1) -> 0
                cancel(0) -> 99
                capture(0, 1) -> State
                capture(0, 99) -> State
                capture(1, 1) -> 1
                """);
        Script.promise(5, "or less is left", twoPayments, """
                capture(0, 101) -> State
                capture(0, 100) -> 0
                capture(0, 1) -> State
                capture(1, 99) -> 1
                capture(1, 2) -> State
                capture(1, 1) -> 2
                """);
    }

    private static void cancel() {
        Script.promise(6, "Makes a payment void.", """
                authorise(0, 0, 100) -> 0
                authorise(0, 0, 100) -> 1
                cancel(1) -> 100
                paymentOf(0, 5) -> 1
                paymentOf(1, 5) -> 0
                capture(0, 1) -> 0
                capture(1, 1) -> State
                count(0) -> 2
                """);
        Script.promise(6, "- `payment`: a payment", """
                cancel(0) -> Index
                authorise(0, 0, 100) -> 0
                cancel(1) -> Index
                authorise(0, 0, 100) -> 1
                cancel(MIN) -> Index
                cancel(-1) -> Index
                cancel(2) -> Index
                cancel(MAX) -> Index
                cancel(0) -> 100
                cancel(1) -> 100
                """);
        Script.promise(6, "Returns what was left of it.", """
                authorise(0, 0, 100) -> 0
                authorise(0, 0, 100) -> 1
                authorise(0, 0, 100) -> 2
                authorise(0, 0, 100) -> 3
                capture(1, 1) -> 0
                capture(2, 99) -> 1
                capture(3, 100) -> 2
                refund(2, 100) -> 100
                cancel(0) -> 100
                cancel(1) -> 99
                cancel(2) -> 1
                cancel(3) -> 0
                cancel(3) -> State
                """);
    }

    private static void cancelThrows() {
        Script.promise(6, "Throws `IndexOutOfBoundsException` if there is no such payment", """
                cancel(0) -> Index
                authorise(0, 0, 100) -> 0
                cancel(0) -> 100
                cancel(1) -> Index
                pass(8) -> 8
                cancel(-1) -> Index
                """);
        Script.promise(6, "Throws `IllegalStateException` if it has expired", """
                authorise(0, 0, 100) -> 0
                authorise(0, 0, 100) -> 1
                pass(6) -> 6
                authorise(0, 0, 100) -> 2
                pass(1) -> 7
                cancel(0) -> 100
                pass(1) -> 8
                cancel(1) -> State
                cancel(2) -> 100
                """);
        Script.promise(6, "or is void", """
                authorise(0, 0, 100) -> 0
                cancel(0) -> 100
                cancel(0) -> State
                pass(8) -> 8
                cancel(0) -> State
                """);
    }

    private static void paymentOf() {
        Script.promise(13, "Returns something of a payment.", """
                pass(2) -> 2
                authorise(0, 0, 10) -> 0
                authorise(11, 7, 20) -> 1
                capture(1, 5) -> 0
                paymentOf(1, 0) -> 11
                paymentOf(1, 1) -> 7
                paymentOf(1, 2) -> 20
                paymentOf(1, 3) -> 5
                paymentOf(1, 4) -> 9
                paymentOf(1, 5) -> 1
                paymentOf(0, 0) -> 0
                paymentOf(0, 1) -> 0
                paymentOf(0, 2) -> 10
                paymentOf(0, 3) -> 0
                """);
        Script.promise(13, "- `payment`: a payment", """
                paymentOf(0, 0) -> Index
                authorise(3, 0, 10) -> 0
                paymentOf(1, 0) -> Index
                authorise(4, 0, 10) -> 1
                paymentOf(MIN, 0) -> Index
                paymentOf(-1, 0) -> Index
                paymentOf(0, 0) -> 3
                paymentOf(1, 0) -> 4
                paymentOf(2, 0) -> Index
                paymentOf(MAX, 0) -> Index
                """);
        Script.promise(13, "- `what`: 0 the card, 1 the shop, 2 the amount, 3 what is captured, 4 the last day for captures", """
                authorise(8, 3, 70) -> 0
                capture(0, 9) -> 0
                paymentOf(0, MIN) -> Argument
                paymentOf(0, -1) -> Argument
                paymentOf(0, 0) -> 8
                paymentOf(0, 1) -> 3
                paymentOf(0, 2) -> 70
                paymentOf(0, 3) -> 9
                paymentOf(0, 4) -> 7
                paymentOf(0, 5) -> 1
                paymentOf(0, 6) -> Argument
                paymentOf(0, MAX) -> Argument
                """);
        Script.promise(13, "Throws `IndexOutOfBoundsException` if there is no such payment", """
                paymentOf(0, -1) -> Index
                authorise(3, 0, 10) -> 0
                paymentOf(1, 5) -> Index
                paymentOf(1, 6) -> Index
                paymentOf(-1, -1) -> Index
                """, Script.times(1, 60, "authorise(3, 0, 10) -> #"), """
                paymentOf(59, 2) -> 10
                paymentOf(60, 2) -> Index
                """);
        Script.promise(13, "Throws `IllegalArgumentException` if what is out of range", """
                authorise(3, 0, 10) -> 0
                paymentOf(0, -1) -> Argument
                paymentOf(0, 6) -> Argument
                """);
    }

    private static void paymentOfLeft() {
        String left = "5 1 if something is left, and it has not expired and is not void, 0 if not";
        Script.promise(13, left, """
                authorise(0, 0, 10) -> 0
                paymentOf(0, 5) -> 1
                capture(0, 8) -> 0
                paymentOf(0, 5) -> 1
                capture(0, 1) -> 1
                paymentOf(0, 5) -> 1
                capture(0, 1) -> 2
                paymentOf(0, 5) -> 0
                refund(2, 1) -> 1
                paymentOf(0, 5) -> 0
                """);
        Script.promise(13, left, """
                authorise(0, 0, 10) -> 0
                pass(6) -> 6
                paymentOf(0, 5) -> 1
                pass(1) -> 7
                paymentOf(0, 5) -> 1
                pass(1) -> 8
                paymentOf(0, 5) -> 0
                paymentOf(0, 4) -> 7
                """);
        Script.promise(13, left, """
                authorise(0, 0, 10) -> 0
                cancel(0) -> 10
                paymentOf(0, 5) -> 0
                """);
    }

    private static void limit() {
        Script.promise(16, "Returns the limit of a card.", """
                authorise(6, 0, 10000) -> 0
                capture(0, 1000) -> 0
                limit(5) -> 10000
                limit(6) -> 3000
                limit(7) -> 10000
                """);
        Script.promise(16, "- `card`: 0 to 11", """
                limit(MIN) -> Index
                limit(-1) -> Index
                limit(0) -> 10000
                limit(1) -> 10000
                limit(10) -> 10000
                limit(11) -> 10000
                limit(12) -> Index
                limit(MAX) -> Index
                """);
        Script.promise(16, "Returns the amount.", RICH, """
                limit(0) -> 100000
                authorise(0, 0, 100000) -> 3
                authorise(0, 0, 100000) -> 4
                authorise(0, 0, 100000) -> 5
                authorise(0, 0, 100000) -> 6
                authorise(0, 0, 100000) -> 7
                capture(3, 100000) -> 3
                limit(0) -> 150000
                capture(4, 100000) -> 4
                limit(0) -> 180000
                capture(5, 100000) -> 5
                capture(6, 100000) -> 6
                limit(0) -> 276000
                """, """
                capture(7, 100000) -> 7
                limit(0) -> 300000
                """);
        Script.promise(16, "Throws `IndexOutOfBoundsException` if there is no such card", """
                limit(12) -> Index
                limit(-1) -> Index
                authorise(11, 0, 100) -> 0
                capture(0, 100) -> 0
                limit(12) -> Index
                limit(11) -> 500
                """);
    }
}
