import java.util.List;

/** Compares answers with those that are due, prints the wrong ones, and ends a test by its exit code. */
final class Due {
    private static final int MOST_PRINTED = 20;

    private final String test;
    private String sentence = "";
    private int sentences;
    private int seenBefore;
    private int seen;
    private int wrong;

    Due(String test) {
        this.test = test;
    }

    /** What follows tries this sentence of the document. */
    void sentence(String text) {
        endSentence();
        sentence = text;
        sentences++;
        seenBefore = seen;
    }

    void is(String what, long got, long want) {
        seen++;
        if (got != want) {
            wrong(what + " answered " + got + ", due is " + want);
        }
    }

    void isTrue(String what, boolean got) {
        is(what, got ? 1 : 0, 1);
    }

    void isFalse(String what, boolean got) {
        is(what, got ? 1 : 0, 0);
    }

    /** Tells the first line in which two lists differ. */
    void same(String what, List<String> got, List<String> want) {
        seen++;
        for (int i = 0; i < Math.max(got.size(), want.size()); i++) {
            String here = i < got.size() ? got.get(i) : "nothing";
            String due = i < want.size() ? want.get(i) : "nothing";
            if (!here.equals(due)) {
                wrong(what + ": " + here + ", due is " + due);
                return;
            }
        }
    }

    void end() {
        endSentence();
        String tried = sentences == 0 ? "" : sentences + " sentences, ";
        System.out.println(test + ": " + tried + seen + " answers, " + wrong + " wrong");
        if (wrong != 0 || seen == 0) {
            System.exit(1);
        }
    }

    private void endSentence() {
        if (sentences > 0 && seen == seenBefore) {
            wrong("nothing tries it");
        }
    }

    private void wrong(String text) {
        wrong++;
        if (wrong <= MOST_PRINTED) {
            System.out.println(test + (sentence.isEmpty() ? "" : " \"" + sentence + "\"") + ": " + text);
        }
    }
}
