/** Promises 6 and 7: take and back. */
public final class PathTest {
    private static final Due DUE = new Due();

    public static void main(String[] args) {
        conditions();
        atMostSixteen();
        lastOneGoes();
        DUE.end();
    }

    private static void conditions() {
        PathSolver x = new PathSolver();
        int v = x.variable(3, false);
        int bit = x.term(19, v, 1, 0);
        int wide = x.term(17, v, 64, 0);
        int[] wrong = {v, wide, -1, -2, 3, 64, Integer.MIN_VALUE, Integer.MAX_VALUE};
        for (int condition : wrong) {
            DUE.is("take(" + condition + ")", x.take(condition), -1);
        }
        DUE.is("conditions after refusals", x.count(2), 0);
        DUE.is("take(bit)", x.take(bit), 1);
        DUE.is("take(bit) once more", x.take(bit), 2);
        DUE.is("take(a constant bit)", x.take(x.constant(1, 0)), 3);
        DUE.is("conditions", x.count(2), 3);
    }

    private static void atMostSixteen() {
        PathSolver x = new PathSolver();
        int v = x.variable(3, false);
        int bit = x.term(19, v, 1, 0);
        for (int i = 1; i <= 16; i++) {
            DUE.is("take " + i, x.take(bit), i);
        }
        DUE.is("take 17", x.take(bit), -2);
        DUE.is("a wrong one is refused before", x.take(v), -1);
        DUE.is("none is refused before", x.take(99), -1);
        DUE.is("conditions", x.count(2), 16);
        DUE.is("flip(16)", x.flip(16), -1);
        DUE.is("flip(15)", x.flip(15), 0);
        DUE.is("check()", x.check(), 1);
        DUE.is("follows()", x.follows(), 16);
        for (int i = 15; i >= 0; i--) {
            DUE.is("back to " + i, x.back(), i);
        }
        DUE.is("back() of an empty path", x.back(), -1);
        DUE.is("back() of an empty path again", x.back(), -1);
        DUE.is("conditions", x.count(2), 0);
        DUE.is("take after all that", x.take(bit), 1);
    }

    private static void lastOneGoes() {
        PathSolver x = new PathSolver();
        int v = x.variable(3, false);
        int least = x.term(14, x.constant(8, 2), v, 0);
        int odd = x.term(19, v, 1, 0);
        int never = x.constant(1, 0);
        x.take(least);
        x.take(never);
        DUE.is("check with never", x.check(), 0);
        DUE.is("back()", x.back(), 1);
        DUE.is("check without", x.check(), 1);
        DUE.is("model(0)", x.model(0), 3);
        DUE.is("the model stays with back()", x.back(), 0);
        DUE.is("model(0)", x.model(0), 3);
        DUE.is("take(odd)", x.take(odd), 1);
        DUE.is("the model stays with take", x.model(0), 3);
        DUE.is("check", x.check(), 1);
        DUE.is("model(0)", x.model(0), 1);
    }
}
