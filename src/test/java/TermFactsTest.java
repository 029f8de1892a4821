/** Promises 14, 15 and 16: width, operation and operand. */
public final class TermFactsTest {
    private static final int[] NO_TERMS = {-1, 64, 65, Integer.MIN_VALUE, Integer.MAX_VALUE};
    private static final Due DUE = new Due();

    public static void main(String[] args) {
        noTerms();
        factsOfEach();
        operandsAfterChangesOfPlace();
        DUE.end();
    }

    private static void noTerms() {
        PathSolver x = new PathSolver();
        x.variable(5, false);
        refusedAll(x, 1);
        for (int term : NO_TERMS) {
            refusedAll(x, term);
        }
    }

    private static void refusedAll(PathSolver x, int term) {
        DUE.is("width(" + term + ")", x.width(term), -1);
        DUE.is("operation(" + term + ")", x.operation(term), -1);
        for (int i = -1; i <= 3; i++) {
            DUE.is("operand(" + term + ", " + i + ")", x.operand(term, i), -1);
        }
    }

    /** Rows: operation, a, b, c, the width that is due. */
    private static void factsOfEach() {
        for (int operation = 0; operation <= 20; operation++) {
            PathSolver x = new PathSolver();
            int v = x.variable(5, false);
            int w = x.variable(5, false);
            int bit = x.term(19, v, 1, 0);
            int three = x.constant(8, 3);
            DUE.is("operation of a variable", x.operation(w), 22);
            DUE.is("width of a variable", x.width(w), 8);
            DUE.is("operation of a constant", x.operation(three), 21);
            noOperands(x, w);
            noOperands(x, three);
            int a = operation == 16 ? bit : v;
            int b = bOf(operation, w);
            int made = x.term(operation, a, b, v);
            DUE.is("operation(" + operation + ")", x.operation(made), operation);
            DUE.is("width of " + operation, x.width(made), widthOf(operation));
            DUE.is("operand 0 of " + operation, x.operand(made, 0), a);
            DUE.is("operand 1 of " + operation, x.operand(made, 1), operation < 2 ? -1 : b);
            DUE.is("operand 2 of " + operation, x.operand(made, 2), operation == 16 ? v : -1);
            int[] wrong = {-1, 3, 4, Integer.MIN_VALUE, Integer.MAX_VALUE};
            for (int i : wrong) {
                DUE.is("operand " + i + " of " + operation, x.operand(made, i), -1);
            }
        }
    }

    private static void noOperands(PathSolver x, int term) {
        for (int i = -1; i <= 3; i++) {
            DUE.is("operand " + i + " of no operation", x.operand(term, i), -1);
        }
    }

    private static int bOf(int operation, int term) {
        switch (operation) {
            case 17: return 32;
            case 18: return 64;
            case 19: return 1;
            case 20: return 1;
            default: return term;
        }
    }

    private static int widthOf(int operation) {
        switch (operation) {
            case 13: case 14: case 15: case 19: return 1;
            case 17: return 32;
            case 18: return 64;
            default: return 8;
        }
    }

    private static void operandsAfterChangesOfPlace() {
        PathSolver x = new PathSolver();
        int v = x.variable(5, false);
        int w = x.variable(5, false);
        int sum = x.term(5, w, v, 0);
        DUE.is("operand 0 of w + v", x.operand(sum, 0), v);
        DUE.is("operand 1 of w + v", x.operand(sum, 1), w);
        int difference = x.term(6, w, v, 0);
        DUE.is("operand 0 of w - v", x.operand(difference, 0), w);
        DUE.is("operand 1 of w - v", x.operand(difference, 1), v);
    }
}
