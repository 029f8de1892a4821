/** Promise 5: which operands of an operation are refused. */
public final class TermRefusalTest {
    private static final int[] NO_TERMS = {-1, -2, 999, Integer.MIN_VALUE, Integer.MAX_VALUE};
    private static final int[] WIDTHS = {1, 8, 16, 32, 64};

    private final Due due = new Due();
    private PathSolver x;
    /** A term that is no constant, and another one, of each width. */
    private final int[] one = new int[5];
    private final int[] other = new int[5];

    public static void main(String[] args) {
        TermRefusalTest test = new TermRefusalTest();
        test.operations();
        test.operandsThatAreNoTerms();
        test.widthsOfTwo();
        test.choices();
        test.newWidths();
        test.tables();
        test.unnamedOperands();
        test.refusalsChangeNothing();
        test.due.end();
    }

    /** A new object for each group of calls: none may get more than 512. */
    private void prepare() {
        x = new PathSolver();
        one[1] = x.variable(5, false);
        other[1] = x.variable(5, true);
        one[0] = x.term(19, one[1], 1, 0);
        other[0] = x.term(19, other[1], 1, 0);
        for (int i = 2; i < 5; i++) {
            one[i] = x.term(17, one[1], WIDTHS[i], 0);
            other[i] = x.term(17, other[1], WIDTHS[i], 0);
        }
    }

    private void operations() {
        prepare();
        int[] wrong = {-1, 21, 22, 23, 100, Integer.MIN_VALUE, Integer.MAX_VALUE};
        for (int operation : wrong) {
            refused(operation, one[1], one[1], one[1]);
            refused(operation, one[0], one[0], one[0]);
        }
    }

    private void operandsThatAreNoTerms() {
        prepare();
        for (int none : NO_TERMS) {
            for (int operation = 0; operation <= 20; operation++) {
                refused(operation, none, fittingB(operation), one[1]);
            }
            for (int operation = 2; operation <= 15; operation++) {
                refused(operation, one[1], none, 0);
                refused(operation, none, none, 0);
            }
            refused(16, one[0], none, one[1]);
            refused(16, one[0], one[1], none);
            refused(16, one[0], none, none);
        }
        refused(5, one[1], x.count(0), 0);
        refused(0, x.count(0), 0, 0);
    }

    /** A second operand with which the operation would be accepted. */
    private int fittingB(int operation) {
        switch (operation) {
            case 17: case 18: return 64;
            case 19: return 1;
            case 20: return 0;
            default: return one[1];
        }
    }

    private void widthsOfTwo() {
        prepare();
        for (int operation = 2; operation <= 15; operation++) {
            for (int i = 0; i < 5; i++) {
                for (int k = 0; k < 5; k++) {
                    if (i != k || !isThere(operation, WIDTHS[i])) {
                        refused(operation, one[i], other[k], 0);
                    } else {
                        accepted(operation, one[i], other[k], 0);
                    }
                }
            }
        }
    }

    private static boolean isThere(int operation, int width) {
        if (operation == 7) {
            return width == 1 || width == 8 || width == 16;
        }
        return (operation != 8 && operation != 9) || width == 8;
    }

    private void choices() {
        prepare();
        for (int i = 0; i < 5; i++) {
            for (int k = 0; k < 5; k++) {
                if (i == k) {
                    accepted(16, one[0], one[i], other[k]);
                } else {
                    refused(16, one[0], one[i], other[k]);
                }
            }
            if (i > 0) {
                refused(16, one[i], one[1], other[1]);
                refused(16, one[i], one[i], other[i]);
            }
        }
    }

    private void newWidths() {
        prepare();
        int[] wrong = {-1, 0, 2, 7, 9, 24, 63, 65, 128, Integer.MIN_VALUE, Integer.MAX_VALUE};
        for (int i = 0; i < 5; i++) {
            for (int operation = 17; operation <= 19; operation++) {
                for (int width : wrong) {
                    refused(operation, one[i], width, 0);
                }
                for (int width : WIDTHS) {
                    boolean fits = operation == 19 ? width < WIDTHS[i] : width > WIDTHS[i];
                    if (fits) {
                        accepted(operation, one[i], width, 0);
                    } else {
                        refused(operation, one[i], width, 0);
                    }
                }
            }
        }
    }

    private void tables() {
        prepare();
        int[] wrong = {-1, 2, 8, Integer.MIN_VALUE, Integer.MAX_VALUE};
        for (int table : wrong) {
            refused(20, one[1], table, 0);
        }
        for (int i = 0; i < 5; i++) {
            for (int table = 0; table < 2; table++) {
                if (i == 1) {
                    accepted(20, one[i], table, 0);
                } else {
                    refused(20, one[i], table, 0);
                }
            }
        }
    }

    /** Any int in place of an operand that is not named gives the same term. */
    private void unnamedOperands() {
        PathSolver y = new PathSolver();
        int v = y.variable(5, false);
        int w = y.variable(5, false);
        int[][] rows = {{0, v, 0}, {1, v, 0}, {2, v, w}, {10, v, w}, {14, v, w}, {17, v, 16},
            {18, v, 16}, {19, v, 1}, {20, v, 1}};
        for (int[] row : rows) {
            int first = y.term(row[0], row[1], row[2], 0);
            due.holds("operation " + row[0] + " has a term", first >= 0);
            for (int any : NO_TERMS) {
                int b = row[0] < 2 ? any : row[2];
                due.is("operation " + row[0] + " with " + any, y.term(row[0], row[1], b, any),
                    first);
            }
        }
    }

    private void refusalsChangeNothing() {
        PathSolver y = new PathSolver();
        int v = y.variable(5, false);
        int terms = y.count(0);
        y.term(7, v, 99, 0);
        y.term(17, v, 8, 0);
        y.term(20, v, 2, 0);
        y.term(21, v, v, v);
        due.is("terms after refusals", y.count(0), terms);
        due.is("cost after refusals", y.count(1), 0);
    }

    private void refused(int operation, int a, int b, int c) {
        due.is(text(operation, a, b, c), x.term(operation, a, b, c), -1);
    }

    /** A term, or FULL for the cost: the operands are not refused. */
    private void accepted(int operation, int a, int b, int c) {
        int answer = x.term(operation, a, b, c);
        due.holds(text(operation, a, b, c) + " answered " + answer + ": it is accepted",
            answer != -1);
    }

    private static String text(int operation, int a, int b, int c) {
        return "term(" + operation + ", " + a + ", " + b + ", " + c + ")";
    }
}
