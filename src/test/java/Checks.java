/** Counts answers that are not as due, and ends the program with 1 if there were any. */
class Checks {
    private final String name;
    private String sentence = "";
    private int sentences = 0;
    private int done = 0;
    private int wrong = 0;

    Checks(String name) {
        this.name = name;
    }

    /** What is due from here on tests these words of the document. */
    void sentence(String words) {
        sentence = "'" + words + "': ";
        sentences++;
    }

    void due(String what, long got, long want) {
        done++;
        if (got != want) {
            tell(what, Long.toString(got), Long.toString(want));
        }
    }

    void due(String what, String got, String want) {
        done++;
        if (!got.equals(want)) {
            tell(what, got, want);
        }
    }

    private void tell(String what, String got, String want) {
        wrong++;
        System.out.println(name + ": " + sentence + what + " answered " + got + ", due is " + want);
    }

    boolean anyWrong() {
        return wrong > 0;
    }

    void end() {
        String of = sentences > 0 ? sentences + " tests of sentences, " : "";
        System.out.println(name + ": " + of + done + " answers, " + wrong + " not as due");
        if (wrong > 0 || done == 0) {
            System.exit(1);
        }
    }
}
