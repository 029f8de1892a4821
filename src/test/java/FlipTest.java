/** Promises 9 and 10: flip and search. */
public final class FlipTest {
    private static final Due DUE = new Due();

    public static void main(String[] args) {
        placesThatAreNone();
        flips();
        flipsOfTenBits();
        noLeavesTheModel();
        laterConditionsDoNotCount();
        searches();
        limits();
        checksInsideSearch();
        DUE.end();
    }

    /** The path 4 &lt; v, v &lt; 12, v is odd, for v of 0 .. 15. */
    private static PathSolver between() {
        PathSolver x = new PathSolver();
        int v = x.variable(4, false);
        x.take(x.term(14, x.constant(8, 4), v, 0));
        x.take(x.term(14, v, x.constant(8, 12), 0));
        x.take(x.term(19, v, 1, 0));
        return x;
    }

    private static void placesThatAreNone() {
        PathSolver x = between();
        int[] wrong = {-1, 3, 4, 16, Integer.MIN_VALUE, Integer.MAX_VALUE};
        for (int k : wrong) {
            DUE.is("flip(" + k + ")", x.flip(k), -1);
        }
        DUE.is("refused ones are no checks", x.count(4) + x.count(5), 0);
        DUE.is("and set no model", x.follows(), -1);
        x.back();
        DUE.is("flip(2) after back()", x.flip(2), -1);
        DUE.is("flip(0) of an empty path", new PathSolver().flip(0), -1);
    }

    private static void flips() {
        PathSolver x = between();
        int[] first = {0, 12, 6};
        for (int k = 0; k < 3; k++) {
            DUE.is("flip(" + k + ")", x.flip(k), 1);
            DUE.is("model(0)", x.model(0), first[k]);
            DUE.is("follows()", x.follows(), k);
        }
        DUE.is("conditions stay", x.count(2), 3);
        DUE.is("check()", x.check(), 1);
        DUE.is("model(0)", x.model(0), 5);
        DUE.is("follows()", x.follows(), 3);
    }

    /** Of all 1024 assignments of ten bits, any one may be the first. */
    private static void flipsOfTenBits() {
        for (int goal = 0; goal < 1024; goal += 31) {
            PathSolver x = new PathSolver();
            int v = x.variable(7, false);
            int w = x.variable(3, false);
            int same = x.term(13, v, x.constant(8, goal >> 3), 0);
            int alike = x.term(13, w, x.constant(8, goal & 7), 0);
            x.take(same);
            x.take(x.term(0, alike, 0, 0));
            DUE.is("flip(1) for " + goal, x.flip(1), 1);
            DUE.is("model(0) for " + goal, x.model(0), goal >> 3);
            DUE.is("model(1) for " + goal, x.model(1), goal & 7);
            x.back();
            x.take(alike);
            DUE.is("check() for " + goal, x.check(), 1);
            DUE.is("model(0) for " + goal, x.model(0), goal >> 3);
            DUE.is("model(1) for " + goal, x.model(1), goal & 7);
        }
    }

    private static void noLeavesTheModel() {
        PathSolver x = between();
        x.take(x.constant(1, 1));
        x.check();
        DUE.is("flip(3)", x.flip(3), 0);
        DUE.is("model(0)", x.model(0), 5);
        PathSolver y = new PathSolver();
        y.take(y.constant(1, 1));
        DUE.is("flip(0)", y.flip(0), 0);
        DUE.is("still no model", y.follows(), -1);
        DUE.is("search(1)", y.search(1), -1);
        DUE.is("still no model", y.follows(), -1);
    }

    private static void laterConditionsDoNotCount() {
        PathSolver x = between();
        x.take(x.constant(1, 0));
        DUE.is("check()", x.check(), 0);
        DUE.is("flip(1)", x.flip(1), 1);
        DUE.is("model(0)", x.model(0), 12);
        DUE.is("flip(3)", x.flip(3), 1);
        DUE.is("model(0)", x.model(0), 5);
        x.take(x.term(13, 0, 0, 0));
        DUE.is("flip(4) is past what can't hold", x.flip(4), 0);
    }

    private static void searches() {
        PathSolver x = between();
        int[] first = {0, 12, 6};
        for (int k = 2; k >= 0; k--) {
            DUE.is("search(" + (k + 1) + ")", x.search(k + 1), k);
            DUE.is("model(0)", x.model(0), first[k]);
        }
        DUE.is("search(0)", x.search(0), -1);
        DUE.is("the model stays", x.model(0), 0);
        int always = x.constant(1, 1);
        x.take(always);
        x.take(always);
        DUE.is("search(5) passes what can't fail", x.search(5), 2);
        DUE.is("model(0)", x.model(0), 6);
        DUE.is("search(4) too", x.search(4), 2);
    }

    private static void limits() {
        PathSolver x = between();
        int[] low = {0, -1, -5, Integer.MIN_VALUE, Integer.MIN_VALUE + 1};
        for (int limit : low) {
            DUE.is("search(" + limit + ")", x.search(limit), -1);
        }
        DUE.is("they make no check", x.count(4) + x.count(5), 0);
        int[] high = {3, 4, 16, 17, 1000, Integer.MAX_VALUE};
        for (int limit : high) {
            DUE.is("search(" + limit + ")", x.search(limit), 2);
        }
        PathSolver y = new PathSolver();
        DUE.is("search(1) of an empty path", y.search(1), -1);
        DUE.is("and of any limit", y.search(Integer.MAX_VALUE), -1);
    }

    private static void checksInsideSearch() {
        PathSolver x = between();
        int always = x.constant(1, 1);
        x.take(always);
        x.take(always);
        x.search(5);
        DUE.is("feasible after search(5)", x.count(4), 1);
        DUE.is("others after search(5)", x.count(5), 2);
        x.search(2);
        DUE.is("feasible after search(2)", x.count(4), 2);
        DUE.is("others after search(2)", x.count(5), 2);
        PathSolver y = new PathSolver();
        for (int i = 0; i < 16; i++) {
            y.take(y.constant(1, 1));
        }
        DUE.is("search of what can't fail", y.search(16), -1);
        DUE.is("feasible", y.count(4), 0);
        DUE.is("others", y.count(5), 16);
    }
}
