/** Promise 3: constant. */
public final class ConstantTest {
    public static void main(String[] args) {
        Due due = new Due();
        widths(due);
        lowBits(due);
        sharing(due);
        sixtyFourTerms(due);
        due.end();
    }

    private static void widths(Due due) {
        PathSolver x = new PathSolver();
        int[] wrong = {0, -1, 2, 7, 9, 15, 17, 24, 31, 33, 63, 65, 128, -8, Integer.MIN_VALUE};
        for (int width : wrong) {
            due.is("constant(" + width + ", 1)", x.constant(width, 1), -1);
        }
        due.is("terms after refusals", x.count(0), 0);
        int[] right = {1, 8, 16, 32, 64};
        for (int i = 0; i < right.length; i++) {
            due.is("constant(" + right[i] + ", 1)", x.constant(right[i], 1), i);
            due.is("its width", x.width(i), right[i]);
            due.is("its operation", x.operation(i), 21);
        }
        due.is("cost", x.count(1), 0);
    }

    private static void lowBits(Due due) {
        PathSolver x = new PathSolver();
        x.check();
        long[][] rows = {
            {1, 0, 0}, {1, 1, -1}, {1, 2, 0}, {1, 3, -1}, {1, -2, 0}, {1, Long.MIN_VALUE, 0},
            {8, 127, 127}, {8, 128, -128}, {8, 255, -1}, {8, 256, 0}, {8, -129, 127},
            {16, 32767, 32767}, {16, 32768, -32768}, {16, 65536, 0}, {16, -1, -1},
            {32, 2147483647L, 2147483647L}, {32, 2147483648L, -2147483648L},
            {32, 4294967296L, 0}, {32, 1L << 63, 0},
            {64, Long.MIN_VALUE, Long.MIN_VALUE}, {64, Long.MAX_VALUE, Long.MAX_VALUE},
            {64, Long.MIN_VALUE + 1, Long.MIN_VALUE + 1}};
        for (long[] row : rows) {
            int term = x.constant((int) row[0], row[1]);
            due.is("value of constant(" + row[0] + ", " + row[1] + ")", x.value(term), row[2]);
        }
    }

    private static void sharing(Due due) {
        PathSolver x = new PathSolver();
        due.is("constant(8, 5)", x.constant(8, 5), 0);
        due.is("constant(16, 5)", x.constant(16, 5), 1);
        due.is("constant(8, 261)", x.constant(8, 261), 0);
        due.is("constant(8, -251)", x.constant(8, -251), 0);
        due.is("constant(16, 261)", x.constant(16, 261), 2);
        due.is("constant(16, 5)", x.constant(16, 5), 1);
        due.is("constant(8, 0)", x.constant(8, 0), 3);
        due.is("terms", x.count(0), 4);
        PathSolver y = new PathSolver();
        y.variable(3, false);
        due.is("no constant is a variable's term", y.constant(8, 0), 1);
        due.is("nor another term's", y.term(1, 0, 0, 0), 2);
        due.is("constant(8, 0)", y.constant(8, 0), 1);
    }

    private static void sixtyFourTerms(Due due) {
        PathSolver x = new PathSolver();
        for (int i = 0; i < 64; i++) {
            due.is("constant(32, " + i + ")", x.constant(32, i), i);
        }
        due.is("the 65th", x.constant(32, 64), -2);
        due.is("of another width", x.constant(64, 1), -2);
        due.is("one that is there", x.constant(32, 63), 63);
        due.is("refused before full", x.constant(33, 63), -1);
        due.is("terms", x.count(0), 64);
    }
}
