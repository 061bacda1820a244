/** Some days of a card network, as README.md shows them. */
public class Example {
    public static void main(String[] args) {
        CardPort network = new CardPort();
        int payment = network.authorise(0, 1, 5000);
        int capture = network.capture(payment, 2000);
        System.out.println("fee: " + network.captureOf(capture, 2));

        int chargeback = network.dispute(capture, 500);
        System.out.println("papers up to the day " + network.chargebackOf(chargeback, 3));
        System.out.println("the card may press up to the day " + network.answer(chargeback));

        System.out.println("day: " + network.pass(11));
        System.out.println("lost: " + (network.chargebackOf(chargeback, 0) == CardPort.LOST));
        System.out.println("net of bank 1: " + network.net(1, true));

        System.out.println("above the limit: " + network.authorise(0, 1, 6001));
        try {
            network.capture(payment, 3000);
        } catch (IllegalStateException expired) {
            System.out.println("the payment has expired");
        }
    }
}
