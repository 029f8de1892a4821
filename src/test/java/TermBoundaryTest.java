/** Promise 5, sentence by sentence: the last number that is allowed, and the first that is not. */
public final class TermBoundaryTest {
    private static final int MIN = Integer.MIN_VALUE;
    private static final int MAX = Integer.MAX_VALUE;
    private static final Due DUE = new Due();

    public static void main(String[] args) {
        numbersOfOperations();
        operandsThatAreTerms();
        widthsThatFit();
        newWidthsAndTables();
        termsAndSixtyFour();
        DUE.end();
    }

    private static void numbersOfOperations() {
        DUE.by("The TERM of operation 0 .. 20 with operands a, b, c");
        Situation some = new Situation("with a path and a model", Situation::model);
        some.gives(DUE, "operation 0", 14, x -> x.term(0, 0, 1, 0));
        some.gives(DUE, "operation 20", 14, x -> x.term(20, 0, 1, 0));
        int[] wrong = {-1, 21, 22, MIN, MAX, 256, -256, 32};
        for (int operation : wrong) {
            some.unchanged(DUE, "operation " + operation, -1, x -> x.term(operation, 0, 1, 0));
            some.unchanged(DUE, "operation " + operation, -1, x -> x.term(operation, 6, 0, 1));
        }
    }

    /** The last term is an operand, the number next to it is none; in each place that is named. */
    private static void operandsThatAreTerms() {
        DUE.by("An operand is no TERM .. REFUSED");
        Situation some = new Situation("with a bit and two variables", x -> {
            x.variable(3, false);
            x.term(19, 0, 1, 0);
            x.variable(3, false);
        });
        int[] wrong = {-1, 3, 64, MIN, MAX};
        for (int operation = 0; operation <= 15; operation++) {
            int asked = operation;
            some.gives(DUE, "operation " + operation, 3, x -> x.term(asked, 2, 0, -9));
            if (operation >= 2) {
                some.gives(DUE, "operation " + operation, 3, x -> x.term(asked, 0, 2, -9));
            }
            for (int none : wrong) {
                some.unchanged(DUE, "a " + none + " of " + operation, -1,
                    x -> x.term(asked, none, 0, 0));
                if (operation >= 2) {
                    some.unchanged(DUE, "b " + none + " of " + operation, -1,
                        x -> x.term(asked, 0, none, 0));
                }
            }
        }
        some.gives(DUE, "operation 16", 3, x -> x.term(16, 1, 2, 0));
        some.gives(DUE, "operation 16", 3, x -> x.term(16, 1, 0, 2));
        for (int none : wrong) {
            some.unchanged(DUE, "a " + none + " of 16", -1, x -> x.term(16, none, 2, 0));
            some.unchanged(DUE, "b " + none + " of 16", -1, x -> x.term(16, 1, none, 0));
            some.unchanged(DUE, "c " + none + " of 16", -1, x -> x.term(16, 1, 0, none));
            some.unchanged(DUE, "b, c " + none + " of 16", -1, x -> x.term(16, 1, none, none));
            some.unchanged(DUE, "a " + none + " of 17", -1, x -> x.term(17, none, 64, 0));
            some.unchanged(DUE, "a " + none + " of 18", -1, x -> x.term(18, none, 64, 0));
            some.unchanged(DUE, "a " + none + " of 19", -1, x -> x.term(19, none, 1, 0));
            some.unchanged(DUE, "a " + none + " of 20", -1, x -> x.term(20, none, 0, 0));
        }
    }

    /** Constants too: step 1 does not come before the refusal. */
    private static void widthsThatFit() {
        DUE.by("WIDTHS do not fit .. REFUSED");
        int[] widths = {1, 8, 16, 32, 64};
        for (int constant = 0; constant < 2; constant++) {
            boolean all = constant == 1;
            Situation now = new Situation(all ? "of constants" : "of variables", x -> {
                int v = x.variable(3, false);
                for (int w : widths) {
                    if (all) {
                        x.constant(w, 1);
                    } else if (w == 8) {
                        x.term(0, v, 0, 0);
                    } else {
                        x.term(w == 1 ? 19 : 17, v, w, 0);
                    }
                }
            });
            for (int i = 0; i < 5; i++) {
                for (int k = 0; k < 5; k++) {
                    int a = 1 + i;
                    int b = 1 + k;
                    if (i == k) {
                        DUE.holds("ADD of width " + widths[i], now.make().term(5, a, b, 0) >= 0);
                        DUE.holds("CHOICE of width " + widths[i], now.make().term(16, 1, a, b) >= 0);
                        continue;
                    }
                    for (int operation = 2; operation <= 15; operation++) {
                        int asked = operation;
                        now.unchanged(DUE, "widths " + widths[i] + ", " + widths[k] + " of " + asked,
                            -1, x -> x.term(asked, a, b, 0));
                    }
                    now.unchanged(DUE, "widths " + widths[i] + ", " + widths[k] + " of 16", -1,
                        x -> x.term(16, 1, a, b));
                }
                int a = 1 + i;
                if (i > 0) {
                    now.unchanged(DUE, "a of width " + widths[i] + " of 16", -1,
                        x -> x.term(16, a, 1, 1));
                }
            }
        }
    }

    private static void newWidthsAndTables() {
        DUE.by("b of 17 to 20 is none such: REFUSED");
        for (int constant = 0; constant < 2; constant++) {
            boolean all = constant == 1;
            Situation now = new Situation(all ? "of a constant" : "of a variable", x -> {
                if (all) {
                    x.constant(8, 5);
                } else {
                    x.variable(3, true);
                }
            });
            int[] greater = {16, 32, 64};
            for (int b : greater) {
                now.gives(DUE, "WIDEN to " + b, 1, x -> x.term(17, 0, b, 0));
                now.gives(DUE, "SIGN WIDEN to " + b, 1, x -> x.term(18, 0, b, 0));
                now.unchanged(DUE, "CUT to " + b, -1, x -> x.term(19, 0, b, 0));
            }
            now.gives(DUE, "CUT to 1", 1, x -> x.term(19, 0, 1, 0));
            int[] noGreater = {8, 1, 0, -1, 9, 15, 17, 31, 33, 63, 65, 128, MIN, MAX};
            for (int b : noGreater) {
                now.unchanged(DUE, "WIDEN to " + b, -1, x -> x.term(17, 0, b, 0));
                now.unchanged(DUE, "SIGN WIDEN to " + b, -1, x -> x.term(18, 0, b, 0));
            }
            int[] noLesser = {8, 0, -1, 2, 7, 9, MIN, MAX};
            for (int b : noLesser) {
                now.unchanged(DUE, "CUT to " + b, -1, x -> x.term(19, 0, b, 0));
            }
            now.gives(DUE, "LOOK UP in 0", 1, x -> x.term(20, 0, 0, 0));
            now.gives(DUE, "LOOK UP in 1", 1, x -> x.term(20, 0, 1, 0));
            int[] noTable = {-1, 2, 8, MIN, MAX};
            for (int b : noTable) {
                now.unchanged(DUE, "LOOK UP in " + b, -1, x -> x.term(20, 0, b, 0));
            }
        }
    }

    private static void termsAndSixtyFour() {
        DUE.by("A new TERM would be the 65th, or COST too much: FULL.");
        for (int count = 63; count <= 64; count++) {
            int constants = count - 3;
            Situation now = new Situation("with " + count + " terms", x -> {
                x.variable(3, false);
                x.variable(3, false);
                x.term(19, 0, 1, 0);
                Situation.constants(x, constants);
            });
            now.gives(DUE, "terms", count, x -> x.count(0));
            for (int operation = 0; operation <= 20; operation++) {
                int asked = operation;
                int a = operation == 16 ? 2 : 0;
                int b = operation == 17 || operation == 18 ? 32 : operation == 19 ? 1 : 1;
                // The term of 19 is there: w is cut in its place.
                int first = operation == 19 ? 1 : a;
                if (count == 63) {
                    now.gives(DUE, "operation " + operation, 63, x -> x.term(asked, first, b, 0));
                } else {
                    now.unchanged(DUE, "operation " + operation, -2,
                        x -> x.term(asked, first, b, 0));
                }
            }
        }
    }
}
