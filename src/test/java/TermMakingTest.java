/** Promise 5: the seven steps of making a term, in their order. */
public final class TermMakingTest {
    private static final Due DUE = new Due();

    public static void main(String[] args) {
        constantsOnly();
        changesOfPlace();
        sameOperands();
        settledChoices();
        zeros();
        undoing();
        sharing();
        orderOfSteps();
        DUE.end();
    }

    private static void constantsOnly() {
        PathSolver x = new PathSolver();
        int six = x.constant(8, 6);
        int seven = x.constant(8, 7);
        DUE.is("6 + 7", x.term(5, six, seven, 0), x.constant(8, 13));
        DUE.is("6 * 7", x.term(7, six, seven, 0), x.constant(8, 42));
        DUE.is("6 < 7", x.term(14, six, seven, 0), x.constant(1, 1));
        DUE.is("7 < 6", x.term(14, seven, six, 0), x.constant(1, 0));
        DUE.is("6 widened", x.term(17, six, 32, 0), x.constant(32, 6));
        DUE.is("NOT 6", x.term(0, six, 0, 0), x.constant(8, -7));
        DUE.is("1 ? 6 : 7", x.term(16, x.constant(1, 1), six, seven), six);
        DUE.is("0 ? 6 : 7", x.term(16, x.constant(1, 0), six, seven), seven);
        DUE.is("the cost of constants", x.count(1), 0);
        int v = x.variable(8, false);
        int product = x.term(7, six, v, 0);
        DUE.is("one constant is not all", x.operation(product), 7);
        int widened = x.term(17, v, 16, 0);
        DUE.is("a width is no operand", x.operation(widened), 17);
        int seen = x.term(20, v, 0, 0);
        DUE.is("a table is no operand", x.operation(seen), 20);
    }

    private static void changesOfPlace() {
        for (int operation = 2; operation <= 15; operation++) {
            PathSolver x = new PathSolver();
            int low = x.variable(5, false);
            int high = x.variable(5, false);
            int made = x.term(operation, high, low, 0);
            boolean changes = operation <= 5 || operation == 7 || operation == 13;
            DUE.is("operand a of " + operation, x.operand(made, 0), changes ? low : high);
            DUE.is("operand b of " + operation, x.operand(made, 1), changes ? high : low);
            int back = x.term(operation, low, high, 0);
            if (changes) {
                DUE.is("operation " + operation + " with places changed", back, made);
            } else {
                DUE.holds("operation " + operation + " keeps places", back != made);
            }
        }
        PathSolver x = new PathSolver();
        int bit = x.term(19, x.variable(2, false), 1, 0);
        int other = x.term(19, x.variable(2, false), 1, 0);
        int choice = x.term(16, other, other, bit);
        DUE.is("a choice keeps its b", x.operand(choice, 1), other);
        DUE.is("a choice keeps its c", x.operand(choice, 2), bit);
    }

    private static void sameOperands() {
        int[] widths = {1, 8, 16, 32, 64};
        for (int width : widths) {
            PathSolver x = new PathSolver();
            int v = x.variable(8, false);
            int a = width == 8 ? v : x.term(width < 8 ? 19 : 17, v, width, 0);
            DUE.is("a AND a", x.term(2, a, a, 0), a);
            DUE.is("a OR a", x.term(3, a, a, 0), a);
            DUE.is("a XOR a", x.term(4, a, a, 0), x.constant(width, 0));
            DUE.is("a SUB a", x.term(6, a, a, 0), x.constant(width, 0));
            DUE.is("a SAME a", x.term(13, a, a, 0), x.constant(1, 1));
            DUE.is("a LESS a", x.term(14, a, a, 0), x.constant(1, 0));
            DUE.is("a SIGNED LESS a", x.term(15, a, a, 0), x.constant(1, 0));
            DUE.is("the cost of these", x.count(1), 0);
            int sum = x.term(5, a, a, 0);
            DUE.is("a ADD a is a new term", x.operation(sum), 5);
            int moved = x.term(10, a, a, 0);
            DUE.is("a LEFT a is a new term", x.operation(moved), 10);
        }
        PathSolver x = new PathSolver();
        int v = x.variable(8, false);
        int[] others = {7, 8, 9, 11, 12};
        for (int operation : others) {
            DUE.is("operation " + operation + " of the same", x.operation(x.term(operation, v, v, 0)),
                operation);
        }
        int quick = x.term(20, v, 0, 0);
        DUE.is("table 0 is not term 0", x.operation(quick), 20);
    }

    private static void settledChoices() {
        PathSolver x = new PathSolver();
        int v = x.variable(4, false);
        int w = x.variable(4, false);
        int bit = x.term(19, v, 1, 0);
        int other = x.term(19, w, 1, 0);
        DUE.is("b and c the same", x.term(16, bit, v, v), v);
        DUE.is("a is 1", x.term(16, x.constant(1, 1), v, w), v);
        DUE.is("a is 0", x.term(16, x.constant(1, 0), v, w), w);
        DUE.is("b, c are the same and a is a constant", x.term(16, x.constant(1, 0), w, w), w);
        int five = x.constant(8, 5);
        DUE.is("a is 1, b a constant", x.term(16, x.constant(1, 1), five, w), five);
        DUE.is("a is 0, b a constant", x.term(16, x.constant(1, 0), five, w), w);
        DUE.is("a is 1, c a constant", x.term(16, x.constant(1, 1), w, five), w);
        DUE.is("a is 0, c a constant", x.term(16, x.constant(1, 0), w, five), five);
        int choice = x.term(16, bit, v, w);
        DUE.is("a choice that is open", x.operation(choice), 16);
        DUE.is("a and b the same do not settle it", x.operation(x.term(16, bit, bit, other)), 16);
        DUE.is("a and c the same do not settle it", x.operation(x.term(16, bit, other, bit)), 16);
        DUE.is("constants at b, c do not settle it",
            x.operation(x.term(16, bit, x.constant(1, 1), x.constant(1, 0))), 16);
    }

    private static void zeros() {
        PathSolver x = new PathSolver();
        int zero = x.constant(8, 0);
        int v = x.variable(8, false);
        int[] giveOther = {3, 4, 5};
        for (int operation : giveOther) {
            DUE.is("v, 0 of " + operation, x.term(operation, v, zero, 0), v);
            DUE.is("0, v of " + operation, x.term(operation, zero, v, 0), v);
        }
        int[] giveZero = {2, 7};
        for (int operation : giveZero) {
            DUE.is("v, 0 of " + operation, x.term(operation, v, zero, 0), zero);
            DUE.is("0, v of " + operation, x.term(operation, zero, v, 0), zero);
        }
        int[] giveFirst = {6, 10, 11, 12};
        for (int operation : giveFirst) {
            DUE.is("v, 0 of " + operation, x.term(operation, v, zero, 0), v);
            int made = x.term(operation, zero, v, 0);
            DUE.is("0, v of " + operation + " is a new term", x.operation(made), operation);
        }
        DUE.is("the cost", x.count(1), 8 + 3 * 24);
        int[] giveNothing = {8, 9, 13, 14, 15};
        for (int operation : giveNothing) {
            int made = x.term(operation, v, zero, 0);
            DUE.is("v, 0 of " + operation + " is a new term", x.operation(made), operation);
        }
        PathSolver y = new PathSolver();
        int late = y.variable(8, false);
        int one = y.constant(8, 1);
        int ones = y.constant(8, -1);
        DUE.is("1 * v is a new term", y.operation(y.term(7, one, late, 0)), 7);
        DUE.is("v AND all ones is a new term", y.operation(y.term(2, late, ones, 0)), 2);
        DUE.is("v + 1 is a new term", y.operation(y.term(5, late, one, 0)), 5);
        int zeroAfter = y.constant(8, 0);
        DUE.is("0 after v: OR", y.term(3, zeroAfter, late, 0), late);
        DUE.is("0 after v: AND", y.term(2, zeroAfter, late, 0), zeroAfter);
    }

    private static void undoing() {
        PathSolver x = new PathSolver();
        int v = x.variable(8, false);
        int not = x.term(0, v, 0, 0);
        int neg = x.term(1, v, 0, 0);
        DUE.is("NOT NOT v", x.term(0, not, 0, 0), v);
        DUE.is("NEG NEG v", x.term(1, neg, 0, 0), v);
        int negNot = x.term(1, not, 0, 0);
        DUE.is("NEG NOT v is a new term", x.operation(negNot), 1);
        int notNeg = x.term(0, neg, 0, 0);
        DUE.is("NOT NEG v is a new term", x.operation(notNeg), 0);
        DUE.is("NOT NOT NEG v", x.term(0, notNeg, 0, 0), neg);
        DUE.is("the cost", x.count(1), 32);
    }

    private static void sharing() {
        PathSolver x = new PathSolver();
        int v = x.variable(4, false);
        int w = x.variable(4, true);
        int bit = x.term(19, v, 1, 0);
        int[][] rows = {{0, v, 0, 0}, {1, v, 0, 0}, {5, v, w, 0}, {6, v, w, 0}, {6, w, v, 0},
            {12, v, w, 0}, {14, v, w, 0}, {15, v, w, 0}, {16, bit, v, w}, {16, bit, w, v},
            {17, v, 16, 0}, {17, v, 32, 0}, {18, v, 16, 0}, {20, v, 0, 0}, {20, v, 1, 0}};
        int[] made = new int[rows.length];
        for (int i = 0; i < rows.length; i++) {
            made[i] = x.term(rows[i][0], rows[i][1], rows[i][2], rows[i][3]);
            DUE.is("row " + i + " is new", made[i], x.count(0) - 1);
            DUE.is("row " + i + " is new by its place", made[i], 3 + i);
        }
        int cost = x.count(1);
        for (int i = 0; i < rows.length; i++) {
            DUE.is("row " + i + " again", x.term(rows[i][0], rows[i][1], rows[i][2], rows[i][3]),
                made[i]);
        }
        DUE.is("the cost after sharing", x.count(1), cost);
        DUE.is("the terms after sharing", x.count(0), 3 + rows.length);
    }

    private static void orderOfSteps() {
        PathSolver x = new PathSolver();
        int zero = x.constant(8, 0);
        int five = x.constant(8, 5);
        DUE.is("all constants before zeros", x.term(6, zero, five, 0), x.constant(8, -5));
        DUE.is("all constants before same operands", x.term(13, zero, zero, 0), x.constant(1, 1));
        int not = x.term(0, five, 0, 0);
        DUE.is("all constants before undoing", x.term(0, not, 0, 0), five);
        DUE.is("quotient of constants", x.term(8, five, zero, 0), x.constant(8, 255));
        DUE.is("rest of constants", x.term(9, five, zero, 0), five);
    }
}
