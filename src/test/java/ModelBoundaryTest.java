/** Promises 11, 12 and 13, sentence by sentence: no model, an older one, and numbers that are none. */
public final class ModelBoundaryTest {
    private static final int MIN = Integer.MIN_VALUE;
    private static final int MAX = Integer.MAX_VALUE;
    private static final long NONE = PathSolver.NONE;
    private static final Due DUE = new Due();

    public static void main(String[] args) {
        modelIsNotBelowZero();
        modelWithoutAModel();
        modelOfVariablesMadeLater();
        modelOfNumbersThatAreNone();
        valueOfVariablesMadeLater();
        valueWithoutAModel();
        valueOfNumbersThatAreNone();
        valueThatLooksLikeNone();
        followsFromTheFirstOn();
        followsWithoutAModel();
        followsOfAnEmptyPath();
        followsWithVariablesMadeLater();
        askingChangesNothing();
        DUE.end();
    }

    private static void modelIsNotBelowZero() {
        DUE.by("The bits of VARIABLE v 0 .. 3 in THE MODEL, read as not below 0");
        for (int bits = 1; bits <= 8; bits++) {
            for (int signed = 0; signed < 2; signed++) {
                PathSolver x = new PathSolver();
                x.variable(1, false);
                x.variable(bits, signed == 1);
                int top = x.term(2, 1, x.constant(8, 1 << (bits - 1)), 0);
                x.take(x.term(14, x.constant(8, 0), top, 0));
                x.check();
                DUE.is("the top bit of " + bits, x.model(1), 1 << (bits - 1));
                int all = signed == 1 ? 255 : (1 << bits) - 1;
                x.take(x.term(13, 1, x.constant(8, all), 0));
                x.check();
                DUE.is("all bits of " + bits, x.model(1), (1 << bits) - 1);
                DUE.is("the other variable", x.model(0), 0);
            }
        }
    }

    private static void modelWithoutAModel() {
        DUE.by("model: REFUSED if there is no MODEL");
        Situation now = new Situation("with four variables and no model", x -> {
            for (int v = 0; v < 4; v++) {
                x.variable(2, true);
            }
        });
        for (int v = -1; v <= 4; v++) {
            int given = v;
            now.unchanged(DUE, "model(" + v + ")", -1, x -> x.model(given));
            now.gives(DUE, "model(" + v + ") after check()", v < 0 || v > 3 ? -1 : 0, x -> {
                x.check();
                return x.model(given);
            });
        }
        Situation failed = new Situation("after a check that was not FEASIBLE", x -> {
            x.variable(2, true);
            x.take(x.constant(1, 0));
            x.check();
        });
        failed.unchanged(DUE, "model(0)", -1, x -> x.model(0));
    }

    /** A model of none, of one, .. of all four variables. */
    private static void modelOfVariablesMadeLater() {
        DUE.by("model: REFUSED if .. no such VARIABLE had been made when it was set.");
        for (int before = 0; before <= 4; before++) {
            PathSolver x = new PathSolver();
            for (int v = 0; v < 4; v++) {
                if (v == before) {
                    x.check();
                }
                x.variable(2, v % 2 == 0);
            }
            if (before == 4) {
                x.check();
            }
            for (int v = 0; v < 4; v++) {
                DUE.is("model(" + v + ") of " + before, x.model(v), v < before ? 0 : -1);
            }
            x.take(x.constant(1, 0));
            x.check();
            x.search(1);
            DUE.is("after search", x.model(3), 0);
            DUE.is("check()", x.check(), 0);
            DUE.is("after a check that was not FEASIBLE", x.model(3), 0);
        }
        PathSolver x = new PathSolver();
        x.variable(2, false);
        x.take(x.constant(1, 1));
        x.check();
        x.variable(2, false);
        x.flip(0);
        DUE.is("a flip that is not FEASIBLE leaves it older", x.model(1), -1);
        x.search(1);
        DUE.is("such a search too", x.model(1), -1);
        x.check();
        DUE.is("a check that is FEASIBLE does not", x.model(1), 0);
    }

    private static void modelOfNumbersThatAreNone() {
        DUE.by("VARIABLE v 0 .. 3 .. REFUSED");
        for (int count = 0; count <= 4; count++) {
            int variables = count;
            Situation now = new Situation("with " + count + " variables", x -> {
                for (int v = 0; v < variables; v++) {
                    x.variable(2, false);
                }
                x.constant(8, 7);
                x.check();
            });
            int[] wrong = {-1, count, 4, 5, 64, MIN, MAX};
            for (int v : wrong) {
                now.unchanged(DUE, "model(" + v + ")", -1, x -> x.model(v));
            }
            for (int v = 0; v < count; v++) {
                int given = v;
                now.unchanged(DUE, "model(" + v + ")", 0, x -> x.model(given));
            }
        }
    }

    private static void valueOfVariablesMadeLater() {
        DUE.by("The VALUE of a TERM with the VARIABLES as in THE MODEL (those made later 0)");
        for (int signed = 0; signed < 2; signed++) {
            for (int bits = 1; bits <= 8; bits++) {
                PathSolver x = new PathSolver();
                x.variable(2, false);
                x.take(x.term(13, 0, x.constant(8, 3), 0));
                x.check();
                int later = x.variable(bits, signed == 1);
                int not = x.term(0, later, 0, 0);
                int sum = x.term(5, 0, later, 0);
                DUE.is("value of it", x.value(later), 0);
                DUE.is("value of its NOT", x.value(not), -1);
                DUE.is("value of a sum with it", x.value(sum), 3);
                x.take(x.term(13, not, x.constant(8, -2), 0));
                DUE.is("check()", x.check(), bits == 1 && signed == 1 ? 0 : 1);
                if (bits > 1 || signed == 0) {
                    DUE.is("value of it in a model with it", x.value(later), 1);
                    DUE.is("value of a sum with it", x.value(sum), 4);
                }
            }
        }
    }

    private static void valueWithoutAModel() {
        DUE.by("value: NONE if there is no MODEL or TERM.");
        Situation now = new Situation("with a path and no model", Situation::path);
        for (int term = -1; term <= 13; term++) {
            int given = term;
            now.unchanged(DUE, "value(" + term + ")", NONE, x -> x.value(given));
        }
    }

    private static void valueOfNumbersThatAreNone() {
        DUE.by("value: NONE if there is no MODEL or TERM.");
        Situation now = new Situation("with a path and a model", Situation::model);
        int[] wrong = {-1, 14, 63, 64, 65, MIN, MAX};
        for (int term : wrong) {
            now.unchanged(DUE, "value(" + term + ")", NONE, x -> x.value(term));
        }
        now.unchanged(DUE, "value(0)", 2, x -> x.value(0));
        now.unchanged(DUE, "value(12)", 0, x -> x.value(12));
        now.unchanged(DUE, "value(13)", 0, x -> x.value(13));
        Situation full = Situation.fullOfTerms();
        full.unchanged(DUE, "value(63)", 63, x -> x.value(63));
        full.unchanged(DUE, "value(64)", NONE, x -> x.value(64));
        Situation empty = new Situation("without terms", PathSolver::check);
        empty.unchanged(DUE, "value(0)", NONE, x -> x.value(0));
        empty.unchanged(DUE, "value(-1)", NONE, x -> x.value(-1));
    }

    private static void valueThatLooksLikeNone() {
        DUE.by("The VALUE of a TERM");
        PathSolver x = new PathSolver();
        int none = x.constant(64, NONE);
        DUE.is("without a model", x.value(none), NONE);
        x.check();
        DUE.is("with one it is the value", x.value(none), NONE);
        DUE.is("one less", x.value(x.constant(64, NONE - 1)), Long.MIN_VALUE);
        DUE.is("one more", x.value(x.constant(64, NONE + 1)), Long.MIN_VALUE + 2);
    }

    /** Sixteen conditions, of which one alone does not hold. */
    private static void followsFromTheFirstOn() {
        DUE.by("How many of THE PATH's CONDITIONS, from the first on, hold with the VARIABLES as in "
            + "THE MODEL before one that does not");
        for (int place = 0; place <= 16; place++) {
            for (int length = 0; length <= 16; length++) {
                PathSolver x = new PathSolver();
                x.variable(3, true);
                int even = x.term(0, x.term(19, 0, 1, 0), 0, 0);
                x.check();
                for (int i = 0; i < length; i++) {
                    x.take(i == place ? x.constant(1, 0) : i % 2 == 0 ? even : x.constant(1, 1));
                }
                DUE.is("follows() of " + length + " with " + place, x.follows(),
                    Math.min(place, length));
            }
        }
    }

    private static void followsWithoutAModel() {
        DUE.by("follows: REFUSED if there is no MODEL.");
        for (int length = 0; length <= 16; length++) {
            int count = length;
            Situation now = new Situation("with " + length + " conditions", x -> {
                x.constant(1, 1);
                for (int i = 0; i < count; i++) {
                    x.take(0);
                }
            });
            now.unchanged(DUE, "follows()", -1, PathSolver::follows);
            now.gives(DUE, "follows() after check()", length, x -> {
                x.check();
                return x.follows();
            });
        }
    }

    private static void followsOfAnEmptyPath() {
        DUE.by("How many of THE PATH's CONDITIONS");
        PathSolver x = new PathSolver();
        x.check();
        DUE.is("follows()", x.follows(), 0);
        x.take(x.constant(1, 1));
        DUE.is("follows() with one", x.follows(), 1);
        x.back();
        DUE.is("follows() without it", x.follows(), 0);
    }

    private static void followsWithVariablesMadeLater() {
        DUE.by("hold with the VARIABLES as in THE MODEL");
        PathSolver x = new PathSolver();
        x.variable(2, false);
        x.check();
        x.variable(2, false);
        int zero = x.constant(8, 0);
        x.take(x.term(13, 1, zero, 0));
        x.take(x.term(13, 0, 1, 0));
        x.take(x.term(14, zero, 1, 0));
        DUE.is("the variable made later is 0", x.follows(), 2);
        DUE.is("check()", x.check(), 0);
        DUE.is("still so", x.follows(), 2);
    }

    private static void askingChangesNothing() {
        DUE.by("model, value and follows ask only");
        for (Situation now : Situation.all()) {
            PathSolver y = now.make();
            long follows = y.follows();
            long model = y.model(0);
            long value = y.value(0);
            now.unchanged(DUE, "follows()", follows, PathSolver::follows);
            now.unchanged(DUE, "model(0)", model, x -> x.model(0));
            now.unchanged(DUE, "value(0)", value, x -> x.value(0));
        }
    }
}
