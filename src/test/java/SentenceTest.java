/** Promises 1 to 21, and the terms: a test for each sentence of the document, named by its words. */
final class SentenceTest {
    public static void main(String[] args) {
        Sentences it = new Sentences("SentenceTest");
        Part[] parts = {
            new TermsSentences(it), new RefusalSentences(it), new ResourceSentences(it), new DeleteSentences(it),
            new CopyMoveSentences(it), new MemberSentences(it), new LockSentences(it), new VersionSentences(it),
        };
        for (Part part : parts) {
            run(part, it);
        }
        it.finish();
    }

    private static void run(Part part, Sentences it) {
        try {
            part.run();
        } catch (RuntimeException thrown) {
            it.tell("a call that should answer threw " + thrown);
        }
    }
}
