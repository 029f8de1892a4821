/** Promises 11, 12 and 13: model, value and follows. */
public final class ModelTest {
    private static final long NONE = PathSolver.NONE;
    private static final Due DUE = new Due();

    public static void main(String[] args) {
        numbersThatAreNone();
        variablesMadeLater();
        values();
        follows();
        followsByEntries();
        DUE.end();
    }

    private static void numbersThatAreNone() {
        PathSolver x = new PathSolver();
        x.variable(3, true);
        x.variable(3, true);
        DUE.is("model(0) without a model", x.model(0), -1);
        DUE.is("value(0) without a model", x.value(0), NONE);
        x.check();
        int[] wrong = {-1, 2, 3, 4, Integer.MIN_VALUE, Integer.MAX_VALUE};
        for (int v : wrong) {
            DUE.is("model(" + v + ")", x.model(v), -1);
            DUE.is("value(" + v + ")", x.value(v), NONE);
        }
        DUE.is("model(0)", x.model(0), 0);
        DUE.is("model(1)", x.model(1), 0);
        DUE.is("value(64)", x.value(64), NONE);
        x.variable(1, false);
        x.variable(1, false);
        x.check();
        DUE.is("model(3)", x.model(3), 0);
        DUE.is("model(4)", x.model(4), -1);
    }

    private static void variablesMadeLater() {
        PathSolver x = new PathSolver();
        int v = x.variable(4, true);
        x.take(x.term(15, v, x.constant(8, -3), 0));
        x.check();
        DUE.is("model(0)", x.model(0), 8);
        int w = x.variable(6, true);
        int sum = x.term(5, v, w, 0);
        DUE.is("model(1)", x.model(1), -1);
        DUE.is("value of the variable made later", x.value(w), 0);
        DUE.is("value of a term made later", x.value(sum), -8);
        DUE.is("model(0) stays", x.model(0), 8);
        x.take(x.term(13, sum, x.constant(8, -5), 0));
        DUE.is("follows with the variable made later 0", x.follows(), 1);
        DUE.is("check()", x.check(), 1);
        DUE.is("model(0)", x.model(0), 8);
        DUE.is("model(1)", x.model(1), 3);
        DUE.is("value of the sum", x.value(sum), -5);
    }

    private static void values() {
        PathSolver x = new PathSolver();
        int v = x.variable(8, false);
        int top = x.constant(8, 200);
        int condition = x.term(13, v, top, 0);
        int wide = x.term(17, v, 64, 0);
        int signedWide = x.term(18, v, 64, 0);
        x.take(condition);
        x.check();
        DUE.is("model is read as not below 0", x.model(0), 200);
        DUE.is("value is read with its sign", x.value(v), -56);
        DUE.is("value of a constant", x.value(top), -56);
        DUE.is("value of a condition that holds", x.value(condition), -1);
        DUE.is("value of a wide one", x.value(wide), 200);
        DUE.is("value of a sign widened one", x.value(signedWide), -56);
        x.flip(0);
        DUE.is("value of a condition that does not", x.value(condition), 0);
        int none = x.constant(64, NONE);
        DUE.is("a value may look like NONE", x.value(none), NONE);
        int checks = x.count(4) + x.count(5);
        DUE.is("value is no check", checks, 2);
    }

    private static void follows() {
        PathSolver x = new PathSolver();
        int v = x.variable(4, false);
        int[] limits = {1, 3, 5, 7};
        for (int limit : limits) {
            x.take(x.term(14, x.constant(8, limit), v, 0));
        }
        DUE.is("follows() without a model", x.follows(), -1);
        for (int k = 0; k < 4; k++) {
            x.flip(k);
            DUE.is("follows() after flip(" + k + ")", x.follows(), k);
        }
        x.check();
        DUE.is("follows() after check()", x.follows(), 4);
        x.back();
        DUE.is("follows() after back()", x.follows(), 3);
        x.take(x.constant(1, 0));
        x.take(x.constant(1, 1));
        DUE.is("follows() ends before the first that does not hold", x.follows(), 3);
        DUE.is("follows() is no check", x.count(4) + x.count(5), 5);
        for (int i = 0; i < 5; i++) {
            x.back();
        }
        DUE.is("follows() of an empty path", x.follows(), 0);
    }

    private static void followsByEntries() {
        PathSolver x = new PathSolver();
        int v = x.variable(3, false);
        int bit = x.term(19, x.term(20, v, 0, 0), 1, 0);
        x.take(bit);
        DUE.is("flip(0)", x.flip(0), 1);
        DUE.is("follows()", x.follows(), 0);
        x.entry(0, 0, 1);
        DUE.is("follows() with an entry set since", x.follows(), 1);
    }
}
