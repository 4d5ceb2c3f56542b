/** Counts the answers that are not as due, and ends a test with exit code 1 if there was one. */
final class Due {
    private String sentence = "";
    private int asked = 0;
    private int wrong = 0;

    /** The sentence of the document that the next answers belong to; a wrong answer is told with it. */
    void sentence(String told) {
        sentence = "[" + told + "] ";
    }

    void is(String call, long got, long want) {
        asked++;
        if (got != want) {
            wrong++;
            System.out.println(sentence + call + " answered " + got + ", due is " + want);
        }
    }

    void is(String call, boolean got, boolean want) {
        is(call, got ? 1L : 0L, want ? 1L : 0L);
    }

    int wrong() {
        return wrong;
    }

    void end() {
        System.out.println(wrong + " of " + asked + " answers are not as due");
        if (wrong != 0 || asked == 0) {
            System.exit(1);
        }
    }
}
