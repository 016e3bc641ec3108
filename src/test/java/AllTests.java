/** Runs every test of the project; the exit code is 1 if one fails. */
public final class AllTests {
    private AllTests() { }

    public static void main(String[] arguments) {
        FaceTest.run();
        LanguageTest.run();
        RoomTest.run();
        ReadmeTest.run();
        ToldTest.run();
        CatalogueTest.run();
        PeriodsTest.run();
        ClassesTest.run();
        LadderTest.run();
        boundaries();
        RandomRunsTest.run();
        Check.end();
    }

    private static void boundaries() {
        BoundaryTermsTest.run();
        BoundaryToldTest.run();
        BoundaryCatalogueTest.run();
        BoundaryPeriodsTest.run();
        BoundaryClassesTest.run();
        BoundaryLadderTest.run();
        Check.test("each sentence of the document is named by a test", Document::findUnnamed);
    }
}
