/** Counts and prints the answers of one test that are not the ones that are due. */
final class Due {
    private int wrong = 0;
    private int looked = 0;
    private String sentence = "";

    /** The sentence of the document that the answers from here on are due by. */
    void by(String newSentence) {
        sentence = newSentence;
    }

    void is(String call, long got, long want) {
        looked++;
        if (got != want) {
            tell(call + " answered " + got + ", due is " + want);
        }
    }

    void holds(String what, boolean got) {
        looked++;
        if (!got) {
            tell(what + " does not hold");
        }
    }

    private void tell(String fault) {
        wrong++;
        System.out.println(sentence.isEmpty() ? fault : fault + " [" + sentence + "]");
    }

    /** Ends the test, with exit code 1 if an answer was wrong. */
    void end() {
        System.out.println(looked + " answers, " + wrong + " not as due");
        if (wrong != 0 || looked == 0) {
            System.exit(1);
        }
    }
}
