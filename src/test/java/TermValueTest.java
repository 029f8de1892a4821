/** Promise 5: what the operations give, each once with constants and once with variables. */
public final class TermValueTest {
    private static final long MIN = Long.MIN_VALUE;
    private static final long MAX = Long.MAX_VALUE;
    private static final Due DUE = new Due();

    /** Rows: operation, width, a, b, result. */
    private static final long[][] OF_TWO = {
        {2, 8, 12, 10, 8}, {2, 64, -1, MIN, MIN}, {3, 8, 12, 10, 14}, {3, 8, -128, 1, -127},
        {4, 8, 12, 10, 6}, {4, 1, -1, -1, 0}, {4, 64, MIN, -1, MAX},
        {5, 8, 127, 1, -128}, {5, 8, -1, 1, 0}, {5, 1, -1, -1, 0}, {5, 16, 32767, 1, -32768},
        {5, 32, 2147483647L, 1, -2147483648L}, {5, 64, MAX, 1, MIN},
        {6, 8, -128, 1, 127}, {6, 8, 0, 1, -1}, {6, 1, 0, -1, -1}, {6, 64, MIN, 1, MAX},
        {6, 32, -2147483648L, 1, 2147483647L},
        {7, 1, -1, -1, -1}, {7, 1, -1, 0, 0}, {7, 8, 16, 16, 0}, {7, 8, -128, -1, -128},
        {7, 8, 15, 17, -1}, {7, 16, 255, 257, -1}, {7, 16, 256, 256, 0}, {7, 16, -1, -1, 1},
        {8, 8, 85, 2, 42}, {8, 8, -1, 1, -1}, {8, 8, -1, 2, 127}, {8, 8, -1, -1, 1},
        {8, 8, 1, -1, 0}, {8, 8, 7, 0, -1}, {8, 8, 0, 0, -1}, {8, 8, -56, 3, 66},
        {9, 8, 85, 2, 1}, {9, 8, -1, 16, 15}, {9, 8, 5, -1, 5}, {9, 8, -56, 0, -56},
        {9, 8, 0, 0, 0}, {9, 8, -2, -1, -2}, {9, 8, -56, 7, 4},
        {10, 8, 1, 7, -128}, {10, 8, 1, 8, 0}, {10, 8, -1, 1, -2}, {10, 8, 3, -1, 0},
        {10, 8, 3, 0, 3}, {10, 1, -1, -1, 0}, {10, 1, -1, 0, -1}, {10, 16, 1, 15, -32768},
        {10, 16, 1, 16, 0}, {10, 32, 1, 31, -2147483648L}, {10, 32, 1, 32, 0},
        {10, 32, 3, -1, 0}, {10, 64, 1, 63, MIN}, {10, 64, 1, 64, 0}, {10, 64, 1, -1, 0},
        {10, 64, 1, MIN, 0}, {10, 64, 1, 4294967296L, 0},
        {11, 8, -128, 7, 1}, {11, 8, -1, 8, 0}, {11, 8, -1, 1, 127}, {11, 8, -1, -128, 0},
        {11, 8, -1, 0, -1}, {11, 1, -1, -1, 0}, {11, 16, -1, 4, 4095}, {11, 32, -1, 31, 1},
        {11, 32, -1, 32, 0}, {11, 64, -1, 63, 1}, {11, 64, -1, 64, 0}, {11, 64, -1, MIN, 0},
        {11, 64, -1, 0, -1}, {11, 64, -1, 1, MAX},
        {12, 8, -128, 7, -1}, {12, 8, -128, 3, -16}, {12, 8, -128, 8, -1}, {12, 8, 127, 8, 0},
        {12, 8, 127, 3, 15}, {12, 8, -2, -1, -1}, {12, 8, 5, -1, 0}, {12, 1, -1, -1, -1},
        {12, 1, 0, -1, 0}, {12, 16, -32768, 15, -1}, {12, 16, -32768, 14, -2},
        {12, 32, -5, 32, -1}, {12, 64, MIN, 63, -1}, {12, 64, MIN, 64, -1}, {12, 64, MIN, MIN, -1},
        {12, 64, MAX, 62, 1}, {12, 64, MAX, -1, 0},
        {13, 8, 5, 5, -1}, {13, 8, 5, -5, 0}, {13, 64, MIN, MIN, -1}, {13, 1, 0, -1, 0},
        {14, 8, 5, -5, -1}, {14, 8, -5, 5, 0}, {14, 8, 5, 5, 0}, {14, 1, 0, -1, -1},
        {14, 1, -1, 0, 0}, {14, 64, MAX, MIN, -1}, {14, 64, MIN, MAX, 0}, {14, 64, -2, -1, -1},
        {14, 32, 1, -2147483648L, -1}, {14, 16, 3, 4, -1}, {14, 8, 4, 3, 0},
        {15, 8, 5, -5, 0}, {15, 8, -5, 5, -1}, {15, 8, 5, 5, 0}, {15, 1, 0, -1, 0},
        {15, 1, -1, 0, -1}, {15, 64, MAX, MIN, 0}, {15, 64, MIN, MAX, -1}, {15, 8, -128, 127, -1},
        {15, 32, -2147483648L, 1, -1}};

    /** Rows: operation, width, a, b (a width, table or nothing), result. */
    private static final long[][] OF_ONE = {
        {0, 8, 0, 0, -1}, {0, 8, 85, 0, -86}, {0, 1, 0, 0, -1}, {0, 1, -1, 0, 0},
        {0, 64, MAX, 0, MIN}, {1, 8, 1, 0, -1}, {1, 8, -128, 0, -128}, {1, 1, -1, 0, -1},
        {1, 8, 0, 0, 0}, {1, 64, MIN, 0, MIN}, {1, 32, -2147483648L, 0, -2147483648L},
        {1, 16, 5, 0, -5},
        {17, 1, -1, 8, 1}, {17, 1, -1, 64, 1}, {17, 8, -1, 16, 255}, {17, 8, -128, 64, 128},
        {17, 16, -1, 32, 65535}, {17, 32, -1, 64, 4294967295L}, {17, 8, 127, 32, 127},
        {18, 1, -1, 8, -1}, {18, 1, 0, 8, 0}, {18, 8, -1, 16, -1}, {18, 8, -128, 64, -128},
        {18, 8, 127, 32, 127}, {18, 32, -2147483648L, 64, -2147483648L},
        {19, 8, -128, 1, 0}, {19, 8, 1, 1, -1}, {19, 16, 128, 8, -128}, {19, 16, 255, 8, -1},
        {19, 64, 4294967295L, 32, -1}, {19, 64, MAX, 16, -1}, {19, 64, MIN, 32, 0},
        {19, 32, 65535, 16, -1}, {19, 64, 2, 1, 0},
        {20, 8, 0, 0, 100}, {20, 8, 7, 0, 107}, {20, 8, 8, 0, 100}, {20, 8, -1, 0, 107},
        {20, 8, 3, 1, -53}, {20, 8, -128, 1, -56}, {20, 8, -3, 1, -51}};

    public static void main(String[] args) {
        for (long[] row : OF_TWO) {
            ofConstants(row, true);
            ofVariables(row, true);
        }
        for (long[] row : OF_ONE) {
            ofConstants(row, false);
            ofVariables(row, false);
        }
        choices();
        DUE.end();
    }

    private static PathSolver withTables() {
        PathSolver x = new PathSolver();
        for (int i = 0; i < 8; i++) {
            x.entry(0, i, 100 + i);
            x.entry(1, i, 200 + i);
        }
        return x;
    }

    private static void ofConstants(long[] row, boolean two) {
        PathSolver x = withTables();
        int width = (int) row[1];
        int a = x.constant(width, row[2]);
        int b = two ? x.constant(width, row[3]) : (int) row[3];
        int made = x.term((int) row[0], a, b, 0);
        x.check();
        DUE.is("operation of " + text(row), x.operation(made), 21);
        DUE.is("width of " + text(row), x.width(made), widthOfResult(row));
        DUE.is("constants " + text(row), x.value(made), row[4]);
    }

    /** XOR with a variable that is 0 in the first model makes terms that are no constants. */
    private static void ofVariables(long[] row, boolean two) {
        PathSolver x = withTables();
        int width = (int) row[1];
        int a = hidden(x, x.variable(1, false), width, row[2]);
        int b = two ? hidden(x, x.variable(1, false), width, row[3]) : (int) row[3];
        int made = x.term((int) row[0], a, b, 0);
        x.check();
        DUE.is("operation of variables " + text(row), x.operation(made), row[0]);
        DUE.is("width of variables " + text(row), x.width(made), widthOfResult(row));
        DUE.is("variables " + text(row), x.value(made), row[4]);
    }

    private static int hidden(PathSolver x, int v, int width, long value) {
        int wide = v;
        if (width != 8) {
            wide = x.term(width == 1 ? 19 : 17, v, width, 0);
        }
        if (value == 0) {
            return wide;
        }
        return x.term(4, wide, x.constant(width, value), 0);
    }

    private static int widthOfResult(long[] row) {
        if (row[0] >= 13 && row[0] <= 15) {
            return 1;
        }
        return row[0] >= 17 && row[0] <= 19 ? (int) row[3] : (int) row[1];
    }

    private static void choices() {
        int[] widths = {1, 8, 16, 32, 64};
        for (int width : widths) {
            PathSolver x = new PathSolver();
            int bit = x.term(19, x.variable(1, false), 1, 0);
            int none = x.constant(width, 0);
            int all = x.constant(width, -1);
            int choice = x.term(16, bit, all, none);
            DUE.is("width of a choice", x.width(choice), width);
            x.take(bit);
            x.check();
            DUE.is("choice with bit 1, width " + width, x.value(choice), -1);
            x.flip(0);
            DUE.is("choice with bit 0, width " + width, x.value(choice), 0);
        }
    }

    private static String text(long[] row) {
        return "of " + row[0] + " width " + row[1] + ": " + row[2] + ", " + row[3];
    }
}
