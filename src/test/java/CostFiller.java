/** Brings the sum of all costs to any number 0 .. 400, with few terms and those of one variable. */
final class CostFiller {
    /** Variables 0, 1 and 2 are made; terms of 1 and 2 are left to the test. */
    static void fill(PathSolver x, int cost) {
        int v = x.variable(3, false);
        x.variable(3, false);
        x.variable(3, true);
        int[] ofWidth = {v, x.term(17, v, 16, 0), x.term(17, v, 32, 0), x.term(17, v, 64, 0)};
        int three = x.constant(8, 3);
        int[][] hundreds = {{8, v, v}, {9, v, v}, {8, v, three}, {9, v, three}};
        for (int i = 0; i < cost / 100; i++) {
            x.term(hundreds[i][0], hundreds[i][1], hundreds[i][2], 0);
        }
        int rest = cost % 100;
        for (int i = 3; i >= 0; i--) {
            if (rest >= 8 << i) {
                x.term(1, ofWidth[i], 0, 0);
                rest -= 8 << i;
            }
        }
        for (int i = 0; i < rest; i++) {
            int bit = x.term(19, ofWidth[i % 4], 1, 0);
            x.term(i / 4, bit, 0, 0);
        }
    }

    private CostFiller() {
    }
}
