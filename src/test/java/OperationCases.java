/**
 * Looks at what one operation gives: once for operands that are constants, and once for terms that
 * are none but have the same values. A row: operation, width, a, b (a value, or the width or table
 * that stands in its place), result.
 */
final class OperationCases {
    private final Due due;

    OperationCases(Due due) {
        this.due = due;
    }

    void ofTwo(long... row) {
        ofConstants(row, true);
        ofVariables(row, true);
    }

    void ofOne(long... row) {
        ofConstants(row, false);
        ofVariables(row, false);
    }

    /** Table 0 has the entries 100 .. 107, table 1 those of 200 .. 207. */
    private static PathSolver withTables() {
        PathSolver x = new PathSolver();
        for (int i = 0; i < 8; i++) {
            x.entry(0, i, 100 + i);
            x.entry(1, i, 200 + i);
        }
        return x;
    }

    private void ofConstants(long[] row, boolean two) {
        PathSolver x = withTables();
        int width = (int) row[1];
        int a = x.constant(width, row[2]);
        int b = two ? x.constant(width, row[3]) : (int) row[3];
        int made = x.term((int) row[0], a, b, 0);
        x.check();
        due.is("operation of constants " + text(row), x.operation(made), 21);
        due.is("width of constants " + text(row), x.width(made), widthOfResult(row));
        due.is("constants " + text(row), x.value(made), row[4]);
    }

    private void ofVariables(long[] row, boolean two) {
        PathSolver x = withTables();
        int width = (int) row[1];
        int a = hidden(x, x.variable(1, false), width, row[2]);
        int b = two ? hidden(x, x.variable(1, false), width, row[3]) : (int) row[3];
        int made = x.term((int) row[0], a, b, 0);
        x.check();
        due.is("operation of variables " + text(row), x.operation(made), row[0]);
        due.is("width of variables " + text(row), x.width(made), widthOfResult(row));
        due.is("variables " + text(row), x.value(made), row[4]);
    }

    /** XOR with a variable that is 0 in the first model makes terms that are no constants. */
    private static int hidden(PathSolver x, int v, int width, long value) {
        int wide = v;
        if (width != 8) {
            wide = x.term(width == 1 ? 19 : 17, v, width, 0);
        }
        if (value == 0) {
            return wide;
        }
        return x.term(4, wide, x.constant(width, value), 0);
    }

    private static int widthOfResult(long[] row) {
        if (row[0] >= 13 && row[0] <= 15) {
            return 1;
        }
        return row[0] >= 17 && row[0] <= 19 ? (int) row[3] : (int) row[1];
    }

    private static String text(long[] row) {
        return "of " + row[0] + " width " + row[1] + ": " + row[2] + ", " + row[3];
    }
}
