/** Runs every test of the project; the exit code is 1 if one fails. */
public final class AllTests {
    private AllTests() { }

    public static void main(String[] arguments) {
        FaceTest.run();
        LanguageTest.run();
        ToldTest.run();
        CatalogueTest.run();
        PeriodsTest.run();
        ClassesTest.run();
        LadderTest.run();
        RandomRunsTest.run();
        Check.end();
    }
}
