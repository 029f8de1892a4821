/** Section Terms: COST of a new term, and the bound on all costs together. */
public final class CostBoundaryTest {
    private static final int[] WIDTHS = {1, 8, 16, 32, 64};
    private static final Due DUE = new Due();

    public static void main(String[] args) {
        fillerGivesEveryCost();
        upToFourHundred();
        costsOfNothing();
        newWidthsCostNothing();
        whatIsThereCostsNothing();
        constantsCostNothing();
        DUE.end();
    }

    private static void fillerGivesEveryCost() {
        DUE.by("count 1: the sum of all COSTS");
        for (int cost = 0; cost <= 400; cost++) {
            PathSolver x = new PathSolver();
            CostFiller.fill(x, cost);
            DUE.is("the cost", x.count(1), cost);
        }
    }

    private static int costOf(int operation, int w) {
        switch (operation) {
            case 7: return w == 1 ? 2 : w == 8 ? 81 : 321;
            case 8: case 9: return 100;
            case 10: case 11: case 12: return w * 3;
            case 20: return 40;
            default: return w;
        }
    }

    private static boolean isThere(int operation, int w) {
        if (operation == 7) {
            return w <= 16;
        }
        return w == 8 || (operation != 8 && operation != 9 && operation != 20);
    }

    /** For each operation and width: the new term makes the cost just 400, or would make it 401. */
    private static void upToFourHundred() {
        for (int operation = 0; operation <= 20; operation++) {
            for (int w : WIDTHS) {
                if (isThere(operation, w) && (operation < 17 || operation > 19)) {
                    upToFourHundred(operation, w, costOf(operation, w));
                }
            }
        }
    }

    private static void upToFourHundred(int operation, int w, int cost) {
        DUE.by("All COSTS together are at most 400.");
        String text = "operation " + operation + " of width " + w + " " + cost;
        Situation exact = withCost(400 - cost, w);
        PathSolver x = exact.make();
        int terms = x.count(0);
        DUE.is(text + " up to 400", make(x, operation, w), terms);
        DUE.is("the cost is 400", x.count(1), 400);
        DUE.is("there is one term more", x.count(0), terms + 1);
        Situation tooMuch = withCost(401 - cost, w);
        DUE.by("COST too much: FULL");
        tooMuch.unchanged(DUE, text + " up to 401", -2, y -> make(y, operation, w));
    }

    /** The cost, and then two operands of the width, a condition too, which cost nothing. */
    private static Situation withCost(int cost, int w) {
        return new Situation("with a cost of " + cost, x -> {
            CostFiller.fill(x, cost);
            for (int v = 1; v <= 2; v++) {
                operand(x, v, w);
                operand(x, v, 1);
            }
        });
    }

    private static int operand(PathSolver x, int v, int w) {
        if (w == 8) {
            return v;
        }
        return x.term(w == 1 ? 19 : 17, v, w, 0);
    }

    private static int make(PathSolver x, int operation, int w) {
        int a = operand(x, 1, w);
        int b = operand(x, 2, w);
        if (operation == 16) {
            return x.term(16, operand(x, 1, 1), a, b);
        }
        return x.term(operation, a, operation == 20 ? 1 : b, 0);
    }

    private static void costsOfNothing() {
        DUE.by("17, 18, 19 and constants 0");
        PathSolver x = new PathSolver();
        CostFiller.fill(x, 400);
        int next = x.count(0);
        DUE.is("WIDEN", x.term(17, 1, 16, 0), next);
        DUE.is("SIGN WIDEN", x.term(18, 1, 32, 0), next + 1);
        DUE.is("CUT", x.term(19, 1, 1, 0), next + 2);
        DUE.is("a constant", x.constant(8, 111), next + 3);
        DUE.is("a product of constants", x.term(7, next + 3, next + 3, 0), next + 4);
        DUE.is("a sum of constants", x.term(5, next + 3, next + 4, 0), next + 5);
        DUE.is("the constant 0 of the same", x.term(6, 1, 1, 0), next + 6);
        DUE.is("the constant 1 of the same", x.term(13, 1, 1, 0), next + 7);
        DUE.is("a variable", x.variable(1, false), next + 8);
        DUE.is("the cost", x.count(1), 400);
    }

    private static void newWidthsCostNothing() {
        DUE.by("17, 18, 19 and constants 0");
        for (int w : WIDTHS) {
            for (int to : WIDTHS) {
                PathSolver x = withCost(400, w).make();
                int a = operand(x, 1, w);
                int next = x.count(0);
                if (to > w) {
                    DUE.is("SIGN WIDEN from " + w + " to " + to, x.term(18, a, to, 0), next);
                    DUE.is("WIDEN from " + w + " to " + to, x.term(17, a, to, 0), next + 1);
                } else if (to < w && (w > 8 || to > 1)) {
                    DUE.is("CUT from " + w + " to " + to, x.term(19, a, to, 0), next);
                }
                DUE.is("the cost", x.count(1), 400);
            }
        }
    }

    private static void whatIsThereCostsNothing() {
        DUE.by("COST of a new TERM");
        PathSolver x = new PathSolver();
        CostFiller.fill(x, 392);
        int sum = x.term(5, 1, 2, 0);
        DUE.is("the cost", x.count(1), 400);
        DUE.is("the same sum", x.term(5, 1, 2, 0), sum);
        DUE.is("with places changed", x.term(5, 2, 1, 0), sum);
        DUE.is("the other way round is new", x.term(6, 2, 1, 0), -2);
        DUE.is("the same operand twice", x.term(2, 1, 1, 0), 1);
        DUE.is("a choice of the same", x.term(16, x.term(19, 1, 1, 0), 2, 2), 2);
        int zero = x.constant(8, 0);
        DUE.is("nothing added", x.term(5, 1, zero, 0), 1);
        DUE.is("moved by nothing", x.term(10, 1, zero, 0), 1);
        DUE.is("times nothing", x.term(7, 1, zero, 0), zero);
        DUE.is("a new product", x.term(7, 1, 2, 0), -2);
        int neg = x.term(1, 0, 0, 0);
        DUE.is("NEG that is there", x.operation(neg), 1);
        DUE.is("NEG of NEG", x.term(1, neg, 0, 0), 0);
        DUE.is("the cost", x.count(1), 400);
    }

    private static void constantsCostNothing() {
        DUE.by("17, 18, 19 and constants 0");
        PathSolver x = new PathSolver();
        int many = x.constant(16, 1234);
        DUE.is("a product of constants", x.operation(x.term(7, many, many, 0)), 21);
        DUE.is("NEG of a constant", x.operation(x.term(1, many, 0, 0)), 21);
        DUE.is("a constant looked up", x.operation(x.term(20, x.constant(8, 2), 0, 0)), 21);
        DUE.is("the cost", x.count(1), 0);
    }
}
