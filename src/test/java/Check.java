/** Compares the answers of calls with those that are due, and counts. */
final class Check {
    private int right;
    private int wrong;
    private String about = "";
    private int answersBefore;

    /** Begins the test of a sentence of the document; each has to compare something. */
    void sentence(String text) {
        endSentence();
        about = text;
        answersBefore = right + wrong;
    }

    private void endSentence() {
        if (!about.isEmpty() && right + wrong == answersBefore) {
            wrong++;
            System.out.println("nothing was compared for: " + about);
        }
    }

    void due(String call, long got, long want) {
        if (got == want) {
            right++;
        } else {
            wrong++;
            System.out.println(call + " answered " + got + ", due is " + want
                + (about.isEmpty() ? "" : "; the sentence: " + about));
        }
    }

    void holds(String what, boolean so) {
        due(what, so ? 1 : 0, 1);
    }

    /** To be called last: ends the machine with exit code 1 if an answer was wrong or there was none. */
    void end() {
        endSentence();
        System.out.println(right + " answers as due, " + wrong + " not");
        if (wrong > 0 || right == 0) {
            System.exit(1);
        }
    }

    static void write(EscapeLights x, String text) {
        x.clear();
        for (int k = 0; k < text.length(); k++) {
            x.type(text.charAt(k));
        }
    }
}
