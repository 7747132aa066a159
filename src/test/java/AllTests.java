/** Runs every test of the project; exit code 1 if an answer was not the one that is due. */
public final class AllTests {
    private AllTests() {
    }

    public static void main(String[] args) {
        FaceTest.run();
        LanguageTest.run();
        ReadmeTest.run();
        SetUpTest.run();
        SightingTest.run();
        StandingTest.run();
        GuessTest.run();
        ForetellingTest.run();
        TextTest.run();
        ListTest.run();
        ImageTest.run();
        edges();
        ModelTest.run();
        System.out.println(Check.checked() + " answers, " + Check.wrong() + " not as due");
        if (Check.wrong() != 0) {
            System.exit(1);
        }
    }

    private static void edges() {
        TermsEdgesTest.run();
        GuessEdgesTest.run();
        ForetoldEdgesTest.run();
        TextEdgesTest.run();
        ListEdgesTest.run();
        PromiseEdgesTest.run();
        RefusedTest.run();
        LongUseTest.run();
        Doc.allAreNamed();
    }
}
