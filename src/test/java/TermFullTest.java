/** Promise 5: costs, and when a term is FULL. */
public final class TermFullTest {
    private static final int[] WIDTHS = {1, 8, 16, 32, 64};
    private static final Due DUE = new Due();

    public static void main(String[] args) {
        costs();
        atMostFourHundred();
        sixtyFourTerms();
        DUE.end();
    }

    private static void costs() {
        for (int width : WIDTHS) {
            int[] alike = {0, 1, 2, 3, 4, 5, 6, 13, 14, 15, 16};
            for (int operation : alike) {
                DUE.is("cost of " + operation + " of width " + width, costOf(operation, width), width);
            }
            for (int operation = 10; operation <= 12; operation++) {
                DUE.is("cost of " + operation + " of width " + width, costOf(operation, width),
                    width * 3);
            }
        }
        DUE.is("cost of 7 of width 1", costOf(7, 1), 2);
        DUE.is("cost of 7 of width 8", costOf(7, 8), 81);
        DUE.is("cost of 7 of width 16", costOf(7, 16), 321);
        DUE.is("cost of 8", costOf(8, 8), 100);
        DUE.is("cost of 9", costOf(9, 8), 100);
        PathSolver x = new PathSolver();
        int v = x.variable(8, false);
        x.term(19, x.term(18, x.term(17, v, 16, 0), 64, 0), 32, 0);
        DUE.is("cost of 17, 18, 19", x.count(1), 0);
        x.term(20, v, 0, 0);
        DUE.is("cost of 20", x.count(1), 40);
    }

    /** The cost of one new term with operands of that width. */
    private static int costOf(int operation, int width) {
        PathSolver x = new PathSolver();
        int a = ofWidth(x, x.variable(5, false), width);
        int b = ofWidth(x, x.variable(5, false), width);
        if (operation == 16) {
            x.term(16, x.term(19, 0, 1, 0), a, b);
        } else {
            x.term(operation, a, b, 0);
        }
        return x.count(1);
    }

    private static int ofWidth(PathSolver x, int v, int width) {
        if (width == 8) {
            return v;
        }
        return x.term(width == 1 ? 19 : 17, v, width, 0);
    }

    private static void atMostFourHundred() {
        PathSolver x = new PathSolver();
        int v = x.variable(8, false);
        int w = x.variable(2, false);
        x.term(8, v, w, 0);
        x.term(9, v, w, 0);
        x.term(8, w, v, 0);
        DUE.is("cost of three divisions", x.count(1), 300);
        int rest = x.term(9, w, v, 0);
        DUE.is("the cost may be 400", x.count(1), 400);
        int terms = x.count(0);
        DUE.is("401 is FULL", x.term(0, x.term(19, v, 1, 0), 0, 0), -2);
        DUE.is("the term of cost 0 is there", x.count(0), terms + 1);
        DUE.is("408 is FULL", x.term(5, v, w, 0), -2);
        DUE.is("440 is FULL", x.term(20, v, 0, 0), -2);
        DUE.is("the cost after FULL", x.count(1), 400);
        DUE.is("a term that is there", x.term(9, w, v, 0), rest);
        DUE.is("a term that is simplified", x.term(2, v, v, 0), v);
        DUE.is("a term of cost 0", x.term(17, v, 64, 0), terms + 1);
        DUE.is("a constant", x.term(4, v, v, 0), terms + 2);
        DUE.is("operands are refused before", x.term(5, v, 99, 0), -1);
        PathSolver y = new PathSolver();
        int u = y.variable(8, false);
        int wide = y.term(17, u, 16, 0);
        y.term(7, wide, wide, 0);
        DUE.is("321 for the product", y.count(1), 321);
        DUE.is("a product of 81 makes 402", y.term(7, u, u, 0), -2);
        DUE.is("40 more", y.term(20, u, 0, 0), 3);
        DUE.is("and 40 more would be 401", y.term(20, u, 1, 0), -2);
        DUE.is("8 are left room for", y.term(0, u, 0, 0), 4);
    }

    private static void sixtyFourTerms() {
        PathSolver x = new PathSolver();
        int v = x.variable(8, false);
        int not = x.term(0, v, 0, 0);
        for (int i = 2; i < 63; i++) {
            x.constant(8, i);
        }
        DUE.is("the 64th", x.term(1, v, 0, 0), 63);
        DUE.is("the 65th", x.term(1, not, 0, 0), -2);
        DUE.is("of cost 0", x.term(17, v, 16, 0), -2);
        DUE.is("a constant by same operands", x.term(6, v, v, 0), -2);
        DUE.is("a constant by SAME", x.term(13, v, v, 0), -2);
        DUE.is("a constant by LESS", x.term(14, v, v, 0), -2);
        DUE.is("a constant of constants", x.term(7, 20, 21, 0), -2);
        DUE.is("a constant that is there", x.term(5, 2, 3, 0), x.constant(8, 5));
        DUE.is("a term that is there", x.term(0, v, 0, 0), not);
        DUE.is("a term that is undone", x.term(0, not, 0, 0), v);
        DUE.is("operands are refused before", x.term(5, v, 64, 0), -1);
        DUE.is("terms", x.count(0), 64);
        DUE.is("cost", x.count(1), 16);
    }
}
