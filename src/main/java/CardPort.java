import java.util.ArrayList;
import java.util.List;

/** A card network of four banks, as ../shared/DOC.md tells it. */
public final class CardPort {
    public static final int NONE = -1;
    public static final int OPEN = 0, ANSWERED = 1, PRESSED = 2, WON = 3, LOST = 4;

    private static final int BANKS = 4;
    private static final int CARDS = 12;
    private static final int CARDS_OF_A_BANK = 3;
    private static final int SHOPS = 8;
    private static final int KINDS = 3;

    private static final int MOST_PAYMENTS = 60;
    private static final int MOST_CAPTURES = 100;
    private static final int MOST_CHARGEBACKS = 60;

    private static final int FIRST_RATE = 10;
    private static final int MOST_RATE = 100;
    private static final int FIRST_CAP = 500;
    private static final int MOST_CAP = 9999;
    private static final int FEE_EXAMPLE = 10000;

    private static final int MOST_AMOUNT = 100000;
    private static final int MOST_DAYS = 100;
    private static final int DAYS_TO_CAPTURE = 7;
    private static final int DAYS_OF_A_STAGE = 10;

    private static final int LIMIT_CAPTURES = 5;
    private static final int LIMIT_TIMES = 3;
    private static final int LEAST_LIMIT = 500;
    private static final int LIMIT_WITHOUT_CAPTURES = 10000;

    private final Bank[] banks = new Bank[BANKS];
    private final Kind[] kinds = new Kind[KINDS];
    private final Shop[] shops = new Shop[SHOPS];
    private final Card[] cards = new Card[CARDS];
    private final List<Payment> payments = new ArrayList<>();
    private final List<Capture> captures = new ArrayList<>();
    private final List<Chargeback> chargebacks = new ArrayList<>();
    private int day = 0;

    public CardPort() {
        for (int i = 0; i < BANKS; i++) {
            banks[i] = new Bank();
        }
        for (int i = 0; i < KINDS; i++) {
            kinds[i] = new Kind(i);
        }
        for (int i = 0; i < SHOPS; i++) {
            shops[i] = new Shop(i, banks[i % BANKS], kinds[0]);
        }
        for (int i = 0; i < CARDS; i++) {
            cards[i] = new Card(i, banks[i / CARDS_OF_A_BANK]);
        }
    }

    // ---- shops, payments, captures

    public int shop(int shop, int kind) throws IndexOutOfBoundsException {
        Shop changed = shopAt(shop);
        Kind next = kindAt(kind);
        int before = changed.kind.number;
        changed.kind = next;
        return before;
    }

    public int kind(int kind, int rate, int cap) throws IndexOutOfBoundsException, IllegalArgumentException {
        Kind changed = kindAt(kind);
        requireRange(rate, 0, MOST_RATE);
        requireRange(cap, 0, MOST_CAP);
        changed.rate = rate;
        changed.cap = cap;
        return changed.feeOf(FEE_EXAMPLE);
    }

    public int authorise(int card, int shop, int amount) throws IndexOutOfBoundsException, IllegalArgumentException, IllegalStateException {
        Card payer = cardAt(card);
        Shop payee = shopAt(shop);
        requireRange(amount, 1, MOST_AMOUNT);
        requirePossible(payments.size() < MOST_PAYMENTS);
        if (amount > limitOf(payer)) {
            return NONE;
        }
        Payment made = new Payment(payments.size(), payer, payee, amount, day + DAYS_TO_CAPTURE);
        payments.add(made);
        return made.number;
    }

    public int capture(int payment, int amount) throws IndexOutOfBoundsException, IllegalArgumentException, IllegalStateException {
        Payment source = paymentAt(payment);
        requireRange(amount, 1, MOST_AMOUNT);
        requirePossible(captures.size() < MOST_CAPTURES);
        requirePossible(source.isAlive(day) && amount <= source.left());
        Capture made = new Capture(captures.size(), source, amount, source.shop.kind.feeOf(amount));
        captures.add(made);
        source.captured += amount;
        made.cardBank().pay(made.shopBank(), made.amount - made.fee);
        return made.number;
    }

    public int cancel(int payment) throws IndexOutOfBoundsException, IllegalStateException {
        Payment ended = paymentAt(payment);
        requirePossible(ended.isAlive(day));
        ended.isVoid = true;
        return ended.left();
    }

    // ---- given back

    public int refund(int capture, int amount) throws IndexOutOfBoundsException, IllegalArgumentException, IllegalStateException {
        Capture source = captureAt(capture);
        requireRange(amount, 1, MOST_AMOUNT);
        requirePossible(amount <= source.amount - givenBackOf(source));
        source.refunded += amount;
        source.shopBank().pay(source.cardBank(), amount);
        return givenBackOf(source);
    }

    public int dispute(int capture, int amount) throws IndexOutOfBoundsException, IllegalArgumentException, IllegalStateException {
        Capture source = captureAt(capture);
        requireRange(amount, 1, MOST_AMOUNT);
        requirePossible(chargebacks.size() < MOST_CHARGEBACKS);
        requirePossible(amount <= source.amount - givenBackOf(source));
        Chargeback made = new Chargeback(chargebacks.size(), source, amount, day + DAYS_OF_A_STAGE);
        chargebacks.add(made);
        source.shopBank().pay(source.cardBank(), amount);
        return made.number;
    }

    public int answer(int chargeback) throws IndexOutOfBoundsException, IllegalStateException {
        Chargeback answered = chargebackAt(chargeback);
        requirePossible(answered.stage == OPEN);
        answered.stage = ANSWERED;
        answered.lastDay = day + DAYS_OF_A_STAGE;
        payBackToShop(answered);
        return answered.lastDay;
    }

    public int press(int chargeback) throws IndexOutOfBoundsException, IllegalStateException {
        Chargeback pressed = chargebackAt(chargeback);
        requirePossible(pressed.stage == ANSWERED);
        pressed.stage = PRESSED;
        pressed.lastDay = NONE;
        pressed.capture.shopBank().pay(pressed.capture.cardBank(), pressed.amount);
        return countPressed();
    }

    public int rule(int chargeback, boolean isForCard) throws IndexOutOfBoundsException, IllegalStateException {
        Chargeback ruled = chargebackAt(chargeback);
        requirePossible(ruled.stage == PRESSED);
        if (isForCard) {
            ruled.stage = WON;
        } else {
            ruled.stage = LOST;
            payBackToShop(ruled);
        }
        return ruled.stage;
    }

    public int pass(int days) throws IllegalArgumentException {
        requireRange(days, 1, MOST_DAYS);
        for (int i = 0; i < days; i++) {
            beginNextDay();
        }
        return day;
    }

    // ---- asking

    public int paymentOf(int payment, int what) throws IndexOutOfBoundsException, IllegalArgumentException {
        Payment asked = paymentAt(payment);
        switch (what) {
            case 0: return asked.card.number;
            case 1: return asked.shop.number;
            case 2: return asked.amount;
            case 3: return asked.captured;
            case 4: return asked.lastDay;
            case 5: return asked.isAlive(day) && asked.left() > 0 ? 1 : 0;
            default: throw new IllegalArgumentException("what is out of range");
        }
    }

    public int captureOf(int capture, int what) throws IndexOutOfBoundsException, IllegalArgumentException {
        Capture asked = captureAt(capture);
        switch (what) {
            case 0: return asked.payment.number;
            case 1: return asked.amount;
            case 2: return asked.fee;
            case 3: return asked.refunded;
            case 4: return givenBackOf(asked);
            default: throw new IllegalArgumentException("what is out of range");
        }
    }

    public int chargebackOf(int chargeback, int what) throws IndexOutOfBoundsException, IllegalArgumentException {
        Chargeback asked = chargebackAt(chargeback);
        switch (what) {
            case 0: return asked.stage;
            case 1: return asked.capture.number;
            case 2: return asked.amount;
            case 3: return asked.lastDay;
            default: throw new IllegalArgumentException("what is out of range");
        }
    }

    public int limit(int card) throws IndexOutOfBoundsException {
        return limitOf(cardAt(card));
    }

    public long net(int bank, boolean isAll) throws IndexOutOfBoundsException {
        Bank asked = bankAt(bank);
        return isAll ? asked.netInAll : asked.netToday;
    }

    public long netAnew(int bank) throws IndexOutOfBoundsException {
        Bank asked = bankAt(bank);
        long net = 0;
        for (int i = 0; i < captures.size(); i++) {
            Capture each = captures.get(i);
            net += each.shareOf(asked, each.amount - each.fee - each.refunded);
        }
        for (int i = 0; i < chargebacks.size(); i++) {
            Chargeback each = chargebacks.get(i);
            if (each.isWithCard()) {
                net -= each.capture.shareOf(asked, each.amount);
            }
        }
        return net;
    }

    public int due(int rank) throws IndexOutOfBoundsException {
        if (rank < 0) {
            throw new IndexOutOfBoundsException("rank is below 0");
        }
        Chargeback found = null;
        for (int i = 0; i < chargebacks.size(); i++) {
            found = nextDueBehind(found);
            if (found == null) {
                return NONE;
            }
            if (i == rank) {
                return found.number;
            }
        }
        return NONE;
    }

    public int count(int what) throws IllegalArgumentException {
        switch (what) {
            case 0: return payments.size();
            case 1: return captures.size();
            case 2: return chargebacks.size();
            case 3: return sumOfFees();
            case 4: return day;
            default: throw new IllegalArgumentException("what is out of range");
        }
    }

    // ---- what the calls share

    private Bank bankAt(int number) {
        if (number < 0 || number >= BANKS) {
            throw new IndexOutOfBoundsException("no such bank");
        }
        return banks[number];
    }

    private Kind kindAt(int number) {
        if (number < 0 || number >= KINDS) {
            throw new IndexOutOfBoundsException("no such kind");
        }
        return kinds[number];
    }

    private Shop shopAt(int number) {
        if (number < 0 || number >= SHOPS) {
            throw new IndexOutOfBoundsException("no such shop");
        }
        return shops[number];
    }

    private Card cardAt(int number) {
        if (number < 0 || number >= CARDS) {
            throw new IndexOutOfBoundsException("no such card");
        }
        return cards[number];
    }

    private Payment paymentAt(int number) {
        if (number < 0 || number >= payments.size()) {
            throw new IndexOutOfBoundsException("no such payment");
        }
        return payments.get(number);
    }

    private Capture captureAt(int number) {
        if (number < 0 || number >= captures.size()) {
            throw new IndexOutOfBoundsException("no such capture");
        }
        return captures.get(number);
    }

    private Chargeback chargebackAt(int number) {
        if (number < 0 || number >= chargebacks.size()) {
            throw new IndexOutOfBoundsException("no such chargeback");
        }
        return chargebacks.get(number);
    }

    private static void requireRange(int value, int least, int most) {
        if (value < least || value > most) {
            throw new IllegalArgumentException("out of range");
        }
    }

    private static void requirePossible(boolean isPossible) {
        if (!isPossible) {
            throw new IllegalStateException("not possible now");
        }
    }

    private int limitOf(Card card) {
        int sum = 0;
        int found = 0;
        for (int i = captures.size() - 1; i >= 0 && found < LIMIT_CAPTURES; i--) {
            Capture each = captures.get(i);
            if (each.payment.card == card) {
                sum += each.amount;
                found++;
            }
        }
        if (found == 0) {
            return LIMIT_WITHOUT_CAPTURES;
        }
        return Math.max(LEAST_LIMIT, LIMIT_TIMES * sum / found);
    }

    // An ANSWERED chargeback still counts, though the shop has the money: the card may press yet.
    private int givenBackOf(Capture capture) {
        int sum = capture.refunded;
        for (int i = 0; i < chargebacks.size(); i++) {
            Chargeback each = chargebacks.get(i);
            if (each.capture == capture && each.stage != LOST) {
                sum += each.amount;
            }
        }
        return sum;
    }

    private static void payBackToShop(Chargeback chargeback) {
        chargeback.capture.cardBank().pay(chargeback.capture.shopBank(), chargeback.amount);
    }

    private int countPressed() {
        int sum = 0;
        for (int i = 0; i < chargebacks.size(); i++) {
            if (chargebacks.get(i).stage == PRESSED) {
                sum++;
            }
        }
        return sum;
    }

    private int sumOfFees() {
        int sum = 0;
        for (int i = 0; i < captures.size(); i++) {
            sum += captures.get(i).fee;
        }
        return sum;
    }

    private void beginNextDay() {
        day++;
        for (int i = 0; i < BANKS; i++) {
            banks[i].netToday = 0;
        }
        for (int i = 0; i < chargebacks.size(); i++) {
            chargebacks.get(i).endIfLate(day);
        }
    }

    private Chargeback nextDueBehind(Chargeback last) {
        Chargeback next = null;
        for (int i = 0; i < chargebacks.size(); i++) {
            Chargeback each = chargebacks.get(i);
            boolean isBehind = last == null || last.isDueBefore(each);
            if (each.hasDeadline() && isBehind && (next == null || each.isDueBefore(next))) {
                next = each;
            }
        }
        return next;
    }

    private static final class Bank {
        long netInAll = 0;
        long netToday = 0;

        void pay(Bank payee, int cents) {
            book(-cents);
            payee.book(cents);
        }

        private void book(int cents) {
            netInAll += cents;
            netToday += cents;
        }
    }

    private static final class Kind {
        final int number;
        int rate = FIRST_RATE;
        int cap = FIRST_CAP;

        Kind(int number) {
            this.number = number;
        }

        int feeOf(int amount) {
            return Math.min(cap, amount * rate / 1000);
        }
    }

    private static final class Shop {
        final int number;
        final Bank bank;
        Kind kind;

        Shop(int number, Bank bank, Kind kind) {
            this.number = number;
            this.bank = bank;
            this.kind = kind;
        }
    }

    private static final class Card {
        final int number;
        final Bank bank;

        Card(int number, Bank bank) {
            this.number = number;
            this.bank = bank;
        }
    }

    private static final class Payment {
        final int number;
        final Card card;
        final Shop shop;
        final int amount;
        final int lastDay;
        int captured = 0;
        boolean isVoid = false;

        Payment(int number, Card card, Shop shop, int amount, int lastDay) {
            this.number = number;
            this.card = card;
            this.shop = shop;
            this.amount = amount;
            this.lastDay = lastDay;
        }

        boolean isAlive(int today) {
            return !isVoid && today <= lastDay;
        }

        int left() {
            return amount - captured;
        }
    }

    private static final class Capture {
        final int number;
        final Payment payment;
        final int amount;
        final int fee;
        int refunded = 0;

        // The fee is kept, since the kind of the shop and its rate and cap may change later.
        Capture(int number, Payment payment, int amount, int fee) {
            this.number = number;
            this.payment = payment;
            this.amount = amount;
            this.fee = fee;
        }

        Bank cardBank() {
            return payment.card.bank;
        }

        Bank shopBank() {
            return payment.shop.bank;
        }

        // A bank that is both the card's and the shop's pays itself: its share is nothing.
        int shareOf(Bank bank, int cents) {
            int share = 0;
            if (shopBank() == bank) {
                share += cents;
            }
            if (cardBank() == bank) {
                share -= cents;
            }
            return share;
        }
    }

    private static final class Chargeback {
        final int number;
        final Capture capture;
        final int amount;
        int stage = OPEN;
        int lastDay;

        Chargeback(int number, Capture capture, int amount, int lastDay) {
            this.number = number;
            this.capture = capture;
            this.amount = amount;
            this.lastDay = lastDay;
        }

        boolean hasDeadline() {
            return stage == OPEN || stage == ANSWERED;
        }

        boolean isWithCard() {
            return stage == OPEN || stage == PRESSED || stage == WON;
        }

        // No bank pays here: the side that the silence favours has the money already.
        void endIfLate(int today) {
            if (!hasDeadline() || today <= lastDay) {
                return;
            }
            stage = stage == OPEN ? WON : LOST;
            lastDay = NONE;
        }

        boolean isDueBefore(Chargeback other) {
            if (lastDay != other.lastDay) {
                return lastDay < other.lastDay;
            }
            if (amount != other.amount) {
                return amount > other.amount;
            }
            return number < other.number;
        }
    }
}
