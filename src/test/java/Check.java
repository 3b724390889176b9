/** Compares answers with those that are due, and ends a test with exit code 1 if one was wrong. */
final class Check {
    private String sentence = "";
    private int sentences;
    private int wrong;
    private int seen;

    /** Names the sentence of the document that the next answers are held against. */
    void sentence(String words) {
        sentence = words + " | ";
        sentences++;
    }

    void due(String call, long want, long got) {
        seen++;
        if (got != want) {
            wrong++;
            System.out.println(sentence + call + " answered " + got + ", due is " + want);
        }
    }

    void due(String call, boolean want, boolean got) {
        due(call, want ? 1L : 0L, got ? 1L : 0L);
    }

    int wrongSoFar() {
        return wrong;
    }

    void finish() {
        String about = sentences == 0 ? "" : sentences + " sentences, ";
        System.out.println(about + seen + " answers, " + wrong + " not as due");
        if (wrong != 0) {
            System.exit(1);
        }
    }
}
