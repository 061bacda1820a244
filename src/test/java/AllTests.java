/** Runs every test of the project; the one argument is the path of CardPort.java. */
public final class AllTests {
    private AllTests() {
    }

    public static void main(String[] args) throws Exception {
        FaceTests.run();
        SourceTests.run(args[0]);
        SetupTests.run();
        PaymentTests.run();
        GivenBackTests.run();
        ChargebackTests.run();
        AskingTests.run();
        ModelTests.run();
        System.out.println(Check.passed + " passed, " + Check.failed + " failed");
        if (Check.failed != 0) {
            System.exit(1);
        }
    }
}
