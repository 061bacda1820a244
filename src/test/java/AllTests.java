import java.nio.file.Path;

/** Runs every test of the project; the arguments are the paths of CardPort.java and of the document, from the checkout's folder. */
public final class AllTests {
    private AllTests() {
    }

    public static void main(String[] args) throws Exception {
        FaceTests.run();
        SourceTests.run(args[0]);
        ReadmeTests.run();
        SetupTests.run();
        PaymentTests.run();
        GivenBackTests.run();
        ChargebackTests.run();
        AskingTests.run();
        SetupSentences.run();
        PaymentSentences.run();
        GivenBackSentences.run();
        ChargebackSentences.run();
        AskingSentences.run();
        ExceptionSentences.run();
        Document.check(Path.of(args[1]));
        ModelTests.run();
        WildTests.run();
        System.out.println(Check.passed + " passed, " + Check.failed + " failed");
        if (Check.failed != 0) {
            System.exit(1);
        }
    }
}
