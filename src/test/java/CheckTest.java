/** Promise 8: check. */
public final class CheckTest {
    private static final Due DUE = new Due();

    public static void main(String[] args) {
        emptyPath();
        firstModel();
        orderOfFourVariables();
        noLeavesTheModel();
        noVariables();
        variablesMadeLater();
        theLastAssignment();
        DUE.end();
    }

    private static void emptyPath() {
        PathSolver x = new PathSolver();
        DUE.is("check() of a new object", x.check(), 1);
        DUE.is("there is a model", x.follows(), 0);
        x.variable(8, true);
        x.variable(2, false);
        DUE.is("check()", x.check(), 1);
        DUE.is("model(0)", x.model(0), 0);
        DUE.is("model(1)", x.model(1), 0);
    }

    /** Signed variables too are tried in the order of their bits as numbers not below 0. */
    private static void firstModel() {
        PathSolver x = new PathSolver();
        int v = x.variable(4, true);
        int w = x.variable(4, false);
        int below = x.term(15, v, x.constant(8, 0), 0);
        int sum = x.term(13, x.term(5, v, w, 0), x.constant(8, 5), 0);
        x.take(sum);
        DUE.is("check of the sum", x.check(), 1);
        DUE.is("model(0)", x.model(0), 0);
        DUE.is("model(1)", x.model(1), 5);
        x.take(below);
        DUE.is("check below 0", x.check(), 1);
        DUE.is("model(0)", x.model(0), 8);
        DUE.is("model(1)", x.model(1), 13);
        DUE.is("value of v", x.value(v), -8);
    }

    /** Any one assignment of variables of 1, 4, 2 and 3 bits is found, and it is the first. */
    private static void orderOfFourVariables() {
        PathSolver x = new PathSolver();
        int[] bits = {1, 4, 2, 3};
        for (int v = 0; v < 4; v++) {
            x.variable(bits[v], v % 2 == 1);
        }
        int three = x.constant(8, 3);
        int sum = x.term(5, x.term(5, x.term(2, 0, three, 0), x.term(2, 1, three, 0), 0),
            x.term(5, x.term(2, 2, three, 0), x.term(2, 3, three, 0), 0), 0);
        for (int goal = 0; goal <= 10; goal++) {
            x.take(x.term(13, sum, x.constant(8, goal), 0));
            int[] first = firstWithSum(bits, goal);
            DUE.is("check of sum " + goal, x.check(), first == null ? 0 : 1);
            for (int v = 0; first != null && v < 4; v++) {
                DUE.is("model(" + v + ") of sum " + goal, x.model(v), first[v]);
            }
            x.back();
        }
    }

    private static int[] firstWithSum(int[] bits, int goal) {
        for (int a = 0; a < 1 << bits[0]; a++) {
            for (int b = 0; b < 1 << bits[1]; b++) {
                for (int c = 0; c < 1 << bits[2]; c++) {
                    for (int d = 0; d < 1 << bits[3]; d++) {
                        if ((a & 3) + (b & 3) + (c & 3) + (d & 3) == goal) {
                            return new int[] {a, b, c, d};
                        }
                    }
                }
            }
        }
        return null;
    }

    private static void noLeavesTheModel() {
        PathSolver x = new PathSolver();
        int v = x.variable(3, false);
        x.take(x.term(13, v, x.constant(8, 6), 0));
        DUE.is("check", x.check(), 1);
        x.take(x.term(13, v, x.constant(8, 5), 0));
        x.variable(2, false);
        DUE.is("check of both", x.check(), 0);
        DUE.is("model(0) is as before", x.model(0), 6);
        DUE.is("model(1) is as before", x.model(1), -1);
        DUE.is("value is as before", x.value(v), 6);
        PathSolver y = new PathSolver();
        y.take(y.constant(1, 0));
        DUE.is("check of 0", y.check(), 0);
        DUE.is("still no model", y.follows(), -1);
    }

    private static void noVariables() {
        PathSolver x = new PathSolver();
        x.take(x.constant(1, 1));
        DUE.is("check of 1", x.check(), 1);
        DUE.is("follows()", x.follows(), 1);
        x.take(x.constant(1, 0));
        DUE.is("check of 1, 0", x.check(), 0);
        DUE.is("follows()", x.follows(), 1);
    }

    /** A variable that is made between checks of the same conditions. */
    private static void variablesMadeLater() {
        PathSolver x = new PathSolver();
        int v = x.variable(2, false);
        int odd = x.term(19, v, 1, 0);
        x.take(odd);
        DUE.is("check with one", x.check(), 1);
        DUE.is("model(0)", x.model(0), 1);
        int w = x.variable(8, false);
        int same = x.term(13, v, w, 0);
        x.take(same);
        DUE.is("check with two", x.check(), 1);
        DUE.is("model(0)", x.model(0), 1);
        DUE.is("model(1)", x.model(1), 1);
        x.take(x.term(14, x.constant(8, 1), w, 0));
        DUE.is("check above 1", x.check(), 1);
        DUE.is("model(0)", x.model(0), 3);
        DUE.is("model(1)", x.model(1), 3);
    }

    private static void theLastAssignment() {
        PathSolver x = new PathSolver();
        int v = x.variable(8, false);
        int w = x.variable(2, true);
        int ones = x.constant(8, -1);
        x.take(x.term(13, v, ones, 0));
        x.take(x.term(13, w, ones, 0));
        DUE.is("check", x.check(), 1);
        DUE.is("model(0)", x.model(0), 255);
        DUE.is("model(1)", x.model(1), 3);
    }
}
