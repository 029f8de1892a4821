/** Promise 2, sentence by sentence: the last number that is allowed, and the first that is not. */
public final class VariableBoundaryTest {
    private static final int MIN = Integer.MIN_VALUE;
    private static final int MAX = Integer.MAX_VALUE;
    private static final Due DUE = new Due();

    public static void main(String[] args) {
        bitsOfAVariable();
        fourVariables();
        tenBits();
        variablesAndSixtyFourTerms();
        DUE.end();
    }

    private static void bitsOfAVariable() {
        DUE.by("Makes the next VARIABLE with 1 .. 8 BITS, signed or plain: its TERM.");
        Situation some = new Situation("behind a constant", x -> x.constant(8, 0));
        int[] wrong = {0, 9, -1, MIN, MAX};
        for (int signed = 0; signed < 2; signed++) {
            boolean kind = signed == 1;
            some.gives(DUE, "variable(1)", 1, x -> x.variable(1, kind));
            some.gives(DUE, "variable(8)", 1, x -> x.variable(8, kind));
            for (int bits : wrong) {
                some.unchanged(DUE, "variable(" + bits + ")", -1, x -> x.variable(bits, kind));
            }
        }
        PathSolver x = some.make();
        x.variable(8, true);
        DUE.is("width", x.width(1), 8);
        DUE.is("operation", x.operation(1), 22);
        DUE.is("the same bits make another one", x.variable(1, true), 2);
        DUE.is("and another one", x.variable(1, true), 3);
    }

    private static void fourVariables() {
        DUE.by("4 are there .. REFUSED");
        Situation three = new Situation("with three", x -> variables(x, 2, 2, 2));
        three.gives(DUE, "the fourth", 3, x -> x.variable(2, false));
        Situation four = new Situation("with four of 8 bits", x -> variables(x, 2, 2, 2, 2));
        four.gives(DUE, "variables", 4, x -> x.count(3));
        four.unchanged(DUE, "variable(1, false)", -1, x -> x.variable(1, false));
        four.unchanged(DUE, "variable(2, true)", -1, x -> x.variable(2, true));
        Situation least = new Situation("with four of 4 bits", x -> variables(x, 1, 1, 1, 1));
        least.unchanged(DUE, "variable(1, false)", -1, x -> x.variable(1, false));
        Situation all = new Situation("with four of 10 bits", x -> variables(x, 1, 2, 3, 4));
        all.gives(DUE, "variables", 4, x -> x.count(3));
        all.unchanged(DUE, "variable(1, false)", -1, x -> x.variable(1, false));
    }

    private static void tenBits() {
        DUE.by("or the BITS would be more than 10 together: REFUSED");
        for (int there = 2; there <= 10; there++) {
            int first = there / 2;
            int second = there - first;
            Situation now = new Situation("with " + there + " bits", x -> variables(x, first, second));
            for (int bits = 1; bits <= 8; bits++) {
                int given = bits;
                String text = "variable(" + bits + ", true)";
                if (there + bits <= 10) {
                    now.gives(DUE, text, 2, x -> x.variable(given, true));
                } else {
                    now.unchanged(DUE, text, -1, x -> x.variable(given, true));
                }
            }
        }
    }

    private static void variablesAndSixtyFourTerms() {
        DUE.by("variable: 64 TERMS: FULL.");
        Situation almost = new Situation("with 63 terms", x -> Situation.constants(x, 63));
        almost.gives(DUE, "variable(8, true)", 63, x -> x.variable(8, true));
        Situation full = new Situation("with 64 terms", x -> Situation.constants(x, 64));
        for (int bits = 1; bits <= 8; bits++) {
            int given = bits;
            full.unchanged(DUE, "variable(" + bits + ", true)", -2, x -> x.variable(given, true));
        }
    }

    private static void variables(PathSolver x, int... bits) {
        for (int i = 0; i < bits.length; i++) {
            x.variable(bits[i], i % 2 == 1);
        }
        x.check();
    }
}
