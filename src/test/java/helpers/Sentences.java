/** Tests of the document's single sentences: an answer that is not due is told with the sentence that it breaks. */
final class Sentences {
    private final Check check = new Check();
    private String sentence = "";
    private int asked = 1;

    /** The answers up to the next call of this are due by these words of the document. */
    void says(String where, String words) {
        tried();
        sentence = where + " \"" + words + "\": ";
        asked = 0;
    }

    void due(String call, long got, long want) {
        asked++;
        check.due(sentence + call, got, want);
    }

    void due(String call, boolean got, boolean want) {
        asked++;
        check.due(sentence + call, got, want);
    }

    private void tried() {
        check.due(sentence + "is tried", asked > 0, true);
    }

    void finish() {
        tried();
        check.finish();
    }
}
