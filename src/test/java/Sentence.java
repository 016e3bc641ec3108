/** Tests of one sentence of the document each: they bear the number of its promise and its words. */
final class Sentence {
    private Sentence() { }

    static void test(int promise, String sentence, Check.Body body) {
        named("promise " + promise, promise, sentence, body);
    }

    static void term(String sentence, Check.Body body) {
        named("terms", 0, sentence, body);
    }

    private static void named(String where, int promise, String sentence, Check.Body body) {
        Check.test(where + ": " + sentence, () -> {
            Check.due("the document says so", Document.name(promise, sentence), true);
            body.run();
        });
    }
}
