/** The sentences of promises 1 to 3, and those of the terms on banks, cards, shops, kinds and days. */
final class SetupSentences {
    private static final int[] BANK_OF_CARD = {0, 0, 0, 1, 1, 1, 2, 2, 2, 3, 3, 3};
    private static final int[] BANK_OF_SHOP = {0, 1, 2, 3, 0, 1, 2, 3};
    /** The limit of the card 0 is 30000, then 60000, then 100000; three payments and three captures are made. */
    static final String RICH = """
            authorise(0, 0, 10000) -> 0
            capture(0, 10000) -> 0
            authorise(0, 0, 30000) -> 1
            capture(1, 30000) -> 1
            authorise(0, 0, 60000) -> 2
            capture(2, 60000) -> 2
            """;

    private SetupSentences() {
    }

    static void run() {
        banksCardsShops();
        banksOfCards();
        banksOfShops();
        kindsAtFirst();
        ratesAndCaps();
        days();
        newObject();
        shop();
        kind();
        feeOfTenThousand();
        kindThrows();
    }

    private static void banksCardsShops() {
        Script.terms(17, "There are the banks 0 to 3", """
                net(-1, true) -> Index
                net(0, true) -> 0
                net(1, true) -> 0
                net(2, true) -> 0
                net(3, true) -> 0
                net(4, true) -> Index
                net(-1, false) -> Index
                net(0, false) -> 0
                net(3, false) -> 0
                net(4, false) -> Index
                netAnew(-1) -> Index
                netAnew(0) -> 0
                netAnew(1) -> 0
                netAnew(2) -> 0
                netAnew(3) -> 0
                netAnew(4) -> Index
                """);
        Script.terms(16, "the cards 0 to 11", """
                limit(-1) -> Index
                limit(0) -> 10000
                limit(1) -> 10000
                limit(10) -> 10000
                limit(11) -> 10000
                limit(12) -> Index
                authorise(-1, 0, 1) -> Index
                authorise(0, 0, 1) -> 0
                authorise(1, 0, 1) -> 1
                authorise(10, 0, 1) -> 2
                authorise(11, 0, 1) -> 3
                authorise(12, 0, 1) -> Index
                """);
        Script.terms(4, "and the shops 0 to 7.", """
                authorise(0, -1, 1) -> Index
                authorise(0, 0, 1) -> 0
                authorise(0, 1, 1) -> 1
                authorise(0, 6, 1) -> 2
                authorise(0, 7, 1) -> 3
                authorise(0, 8, 1) -> Index
                shop(-1, 0) -> Index
                shop(0, 0) -> 0
                shop(1, 0) -> 0
                shop(6, 0) -> 0
                shop(7, 0) -> 0
                shop(8, 0) -> Index
                """);
    }

    private static void banksOfCards() {
        for (int card = 0; card < 12; card++) {
            int bank = BANK_OF_CARD[card];
            int shop = (bank + 1) % 4;
            Script.terms(17, "The bank of a card is its number by 3, cut", movedFrom(card, shop, bank, shop));
        }
    }

    private static void banksOfShops() {
        for (int shop = 0; shop < 8; shop++) {
            int bank = BANK_OF_SHOP[shop];
            int bankOfCard = (bank + 3) % 4;
            Script.terms(17, "the bank of a shop is the remainder of its number by 4",
                    movedFrom(3 * bankOfCard, shop, bankOfCard, bank));
        }
    }

    /** A capture of 1000 with a fee of 10: what all four banks have then. */
    private static String movedFrom(int card, int shop, int from, int to) {
        StringBuilder rows = new StringBuilder();
        rows.append("authorise(" + card + ", " + shop + ", 1000) -> 0\ncapture(0, 1000) -> 0\n");
        for (int bank = 0; bank < 4; bank++) {
            int due = bank == from ? -990 : bank == to ? 990 : 0;
            rows.append("net(" + bank + ", true) -> " + due + "\n");
            rows.append("net(" + bank + ", false) -> " + due + "\n");
            rows.append("netAnew(" + bank + ") -> " + due + "\n");
        }
        return rows.toString();
    }

    private static void kindsAtFirst() {
        for (int shop = 0; shop < 8; shop++) {
            Script.terms(2, "A shop is of a kind, 0 to 2, 0 at first",
                    "shop(" + shop + ", -1) -> Index",
                    "shop(" + shop + ", 3) -> Index",
                    "shop(" + shop + ", 1) -> 0",
                    "shop(" + shop + ", 2) -> 1",
                    "shop(" + shop + ", 0) -> 2");
        }
        for (int kind = 0; kind < 3; kind++) {
            String shop = "shop(0, " + kind + ") -> 0";
            Script.terms(3, "10 at first", shop, """
                    authorise(0, 0, 10000) -> 0
                    capture(0, 99) -> 0
                    capture(0, 100) -> 1
                    capture(0, 101) -> 2
                    capture(0, 1999) -> 3
                    capture(0, 2000) -> 4
                    capture(0, 2001) -> 5
                    captureOf(0, 2) -> 0
                    captureOf(1, 2) -> 1
                    captureOf(2, 2) -> 1
                    captureOf(3, 2) -> 19
                    captureOf(4, 2) -> 20
                    captureOf(5, 2) -> 20
                    """);
            Script.terms(3, "500 at first", shop, RICH, """
                    captureOf(2, 2) -> 500
                    authorise(0, 0, 49999) -> 3
                    authorise(0, 0, 50000) -> 4
                    authorise(0, 0, 50100) -> 5
                    capture(3, 49999) -> 3
                    capture(4, 50000) -> 4
                    capture(5, 50100) -> 5
                    captureOf(3, 2) -> 499
                    captureOf(4, 2) -> 500
                    captureOf(5, 2) -> 500
                    """);
        }
    }

    private static void ratesAndCaps() {
        for (int kind = 0; kind < 3; kind++) {
            String call = "kind(" + kind + ", ";
            Script.terms(3, "a kind has a rate, 0 to 100 thousandths",
                    call + "-1, 9999) -> Argument",
                    call + "0, 9999) -> 0",
                    call + "1, 9999) -> 10",
                    call + "99, 9999) -> 990",
                    call + "100, 9999) -> 1000",
                    call + "101, 9999) -> Argument");
            Script.terms(3, "and a cap, 0 to 9999 cents",
                    call + "100, -1) -> Argument",
                    call + "100, 0) -> 0",
                    call + "100, 1) -> 1",
                    call + "100, 9998) -> 1000",
                    call + "100, 9999) -> 1000",
                    call + "100, 10000) -> Argument");
        }
        Script.terms(3, "and a cap, 0 to 9999 cents", RICH, """
                authorise(0, 0, 99989) -> 3
                authorise(0, 0, 99990) -> 4
                authorise(0, 0, 100000) -> 5
                authorise(0, 0, 100000) -> 6
                kind(0, 100, 9999) -> 1000
                capture(3, 99989) -> 3
                capture(4, 99990) -> 4
                capture(5, 100000) -> 5
                kind(0, 100, 9998) -> 1000
                capture(6, 100000) -> 6
                captureOf(3, 2) -> 9998
                captureOf(4, 2) -> 9999
                captureOf(5, 2) -> 9999
                captureOf(6, 2) -> 9998
                """);
    }

    private static void days() {
        Script.terms(12, "Days are counted from 0.", """
                count(4) -> 0
                authorise(0, 0, 1) -> 0
                paymentOf(0, 4) -> 7
                pass(1) -> 1
                count(4) -> 1
                authorise(0, 0, 1) -> 1
                paymentOf(1, 4) -> 8
                pass(1) -> 2
                count(4) -> 2
                """);
    }

    private static void newObject() {
        Script.promise(1, "Opens the network on the day 0.", """
                count(0) -> 0
                count(1) -> 0
                count(2) -> 0
                count(3) -> 0
                count(4) -> 0
                due(0) -> -1
                """,
                Script.times(12, "limit(#) -> 10000"),
                Script.times(8, "shop(#, 0) -> 0"),
                Script.times(4, "net(#, true) -> 0\nnet(#, false) -> 0\nnetAnew(#) -> 0"), """
                paymentOf(0, 0) -> Index
                captureOf(0, 0) -> Index
                chargebackOf(0, 0) -> Index
                capture(0, 1) -> Index
                cancel(0) -> Index
                refund(0, 1) -> Index
                dispute(0, 1) -> Index
                answer(0) -> Index
                press(0) -> Index
                rule(0, true) -> Index
                pass(1) -> 1
                """);
    }

    private static void shop() {
        Script.promise(2, "Sets the kind of a shop.", """
                kind(1, 100, 9999) -> 1000
                kind(2, 50, 9999) -> 500
                authorise(0, 3, 1000) -> 0
                authorise(0, 4, 1000) -> 1
                shop(3, 1) -> 0
                capture(0, 100) -> 0
                capture(1, 100) -> 1
                shop(3, 2) -> 1
                capture(0, 100) -> 2
                captureOf(0, 2) -> 10
                captureOf(1, 2) -> 1
                captureOf(2, 2) -> 5
                """);
        Script.promise(2, "- `shop`: 0 to 7", """
                shop(MIN, 1) -> Index
                shop(-1, 1) -> Index
                shop(0, 1) -> 0
                shop(1, 1) -> 0
                shop(6, 1) -> 0
                shop(7, 1) -> 0
                shop(8, 1) -> Index
                shop(MAX, 1) -> Index
                shop(5, 1) -> 0
                shop(0, 0) -> 1
                shop(7, 0) -> 1
                """);
        Script.promise(2, "- `kind`: 0 to 2", """
                shop(4, 1) -> 0
                shop(4, MIN) -> Index
                shop(4, -1) -> Index
                shop(4, 0) -> 1
                shop(4, 1) -> 0
                shop(4, 2) -> 1
                shop(4, 3) -> Index
                shop(4, MAX) -> Index
                shop(4, 0) -> 2
                """);
        Script.promise(2, "Returns what it was.", """
                shop(4, 2) -> 0
                shop(4, 2) -> 2
                shop(3, 1) -> 0
                shop(5, 1) -> 0
                shop(4, 1) -> 2
                shop(4, 0) -> 1
                shop(4, 0) -> 0
                """);
        Script.promise(2, "Throws `IndexOutOfBoundsException` if there is no such shop or kind", """
                shop(7, 2) -> 0
                shop(8, 2) -> Index
                shop(7, 3) -> Index
                shop(8, 3) -> Index
                shop(-1, -1) -> Index
                shop(7, 2) -> 2
                """);
    }

    private static void kind() {
        Script.promise(3, "Sets the rate and the cap of a kind.", """
                shop(1, 1) -> 0
                shop(2, 2) -> 0
                kind(1, 20, 30) -> 30
                authorise(0, 0, 10000) -> 0
                authorise(0, 1, 10000) -> 1
                authorise(0, 2, 10000) -> 2
                capture(0, 2000) -> 0
                capture(1, 1499) -> 1
                capture(1, 1500) -> 2
                capture(1, 1550) -> 3
                capture(2, 2000) -> 4
                captureOf(0, 2) -> 20
                captureOf(1, 2) -> 29
                captureOf(2, 2) -> 30
                captureOf(3, 2) -> 30
                captureOf(4, 2) -> 20
                """);
        Script.promise(3, "- `kind`: 0 to 2", """
                kind(MIN, 100, 9999) -> Index
                kind(-1, 100, 9999) -> Index
                kind(0, 100, 9999) -> 1000
                kind(1, 100, 9999) -> 1000
                kind(2, 100, 9999) -> 1000
                kind(3, 100, 9999) -> Index
                kind(MAX, 100, 9999) -> Index
                """);
        Script.promise(3, "- `rate`: 0 to 100", """
                kind(0, MIN, 9999) -> Argument
                kind(0, -1, 9999) -> Argument
                kind(0, 0, 9999) -> 0
                kind(0, 1, 9999) -> 10
                kind(0, 99, 9999) -> 990
                kind(0, 100, 9999) -> 1000
                kind(0, 101, 9999) -> Argument
                kind(0, MAX, 9999) -> Argument
                """);
        Script.promise(3, "- `cap`: 0 to 9999", """
                kind(0, 100, MIN) -> Argument
                kind(0, 100, -1) -> Argument
                kind(0, 100, 0) -> 0
                kind(0, 100, 1) -> 1
                kind(0, 100, 9998) -> 1000
                kind(0, 100, 9999) -> 1000
                kind(0, 100, 10000) -> Argument
                kind(0, 100, MAX) -> Argument
                """);
    }

    private static void feeOfTenThousand() {
        Script.promise(3, "Returns the fee of an amount of 10000 then.", """
                kind(0, 10, 99) -> 99
                kind(0, 10, 100) -> 100
                kind(0, 10, 101) -> 100
                kind(0, 9, 100) -> 90
                kind(0, 11, 100) -> 100
                kind(0, 100, 999) -> 999
                kind(0, 100, 1000) -> 1000
                kind(0, 100, 1001) -> 1000
                kind(0, 0, 0) -> 0
                kind(0, 1, 0) -> 0
                kind(0, 0, 1) -> 0
                kind(0, 1, 1) -> 1
                kind(1, 1, 9) -> 9
                kind(1, 1, 10) -> 10
                kind(1, 1, 11) -> 10
                """);
    }

    /** What the refused calls leave shows only in later fees: a rate of 10 up to the amount 50000, a cap of 500. */
    private static void kindThrows() {
        String feesAsAtFirst = """
                authorise(0, 0, 49999) -> 3
                authorise(0, 0, 50100) -> 4
                capture(3, 49999) -> 3
                capture(4, 50100) -> 4
                captureOf(3, 2) -> 499
                captureOf(4, 2) -> 500
                """;
        Script.promise(3, "Throws `IndexOutOfBoundsException` if there is no such kind", RICH, """
                kind(-1, 50, 3) -> Index
                kind(3, 50, 3) -> Index
                kind(3, 101, 3) -> Index
                kind(3, 50, -1) -> Index
                kind(-1, -1, 10000) -> Index
                """, feesAsAtFirst);
        Script.promise(3, "Throws `IllegalArgumentException` if rate or cap is out of range", RICH, """
                kind(0, 101, 3) -> Argument
                kind(0, -1, 3) -> Argument
                kind(0, 50, 10000) -> Argument
                kind(0, 50, -1) -> Argument
                kind(0, -1, -1) -> Argument
                kind(0, 101, 10000) -> Argument
                """, feesAsAtFirst);
    }
}
