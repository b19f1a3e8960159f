import java.io.IOException;

/**
 * All promises: each sentence of ../shared/DOC.md, quoted, has runs of calls of its own, which
 * would be wrong if it were broken. It fails too if a sentence is left out, or is none.
 */
final class SentencesTest {
    private static final String[] TERMS = {"Terms", "Words", "Shots", "Putting all words", "Text",
        "Undo", "Errors"};

    public static void main(String[] args) throws IOException {
        Sentences s = new Sentences("../shared/DOC.md");
        ScreenSentences.all(s);
        TextSentences.all(s);
        UndoAndErrorSentences.all(s);
        ActionSentences.all(s);
        LookingSentences.all(s);
        for (String term : TERMS) {
            s.demandAllOf(term);
        }
        for (int promise = 1; promise <= 25; promise++) {
            s.demandAllOf("Promise " + promise);
        }
        s.finish();
    }
}
