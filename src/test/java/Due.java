/** Counts and prints the answers that are not the ones that are due. */
final class Due {
    private String sentence = "";
    private int sentences = 0;
    private int asked = 0;
    private int wrong = 0;

    /** What follows tests this sentence of the document. */
    void of(String sentence) {
        this.sentence = "[" + sentence + "] ";
        sentences++;
    }

    void is(String what, long got, long want) {
        asked++;
        if (got != want) {
            wrong++;
            System.out.println(sentence + what + " answered " + got + ", due is " + want);
        }
    }

    void isTrue(String what, boolean got) {
        is(what, got ? 1 : 0, 1);
    }

    void isText(String what, String got, String want) {
        asked++;
        if (!got.equals(want)) {
            wrong++;
            System.out.println(sentence + what + " left\n" + got + "\ndue is\n" + want);
        }
    }

    boolean hasWrong() {
        return wrong > 0;
    }

    void end(String name) {
        String of = sentences > 0 ? " on " + sentences + " sentences" : "";
        System.out.println(name + ": " + asked + " answers" + of + ", " + wrong + " wrong");
        if (wrong > 0) {
            System.exit(1);
        }
    }
}
