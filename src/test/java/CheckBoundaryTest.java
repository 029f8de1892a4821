/** Promise 8, sentence by sentence: paths that all values take, one choice of values, or none. */
public final class CheckBoundaryTest {
    private static final Due DUE = new Due();

    public static void main(String[] args) {
        emptyPath();
        noVariables();
        justOneChoice();
        theFirstOfTwo();
        yesSetsTheModel();
        noLeavesTheModel();
        noLeavesNoModel();
        sixteenConditions();
        oneConditionMore();
        DUE.end();
    }

    private static void emptyPath() {
        DUE.by("FEASIBLE: there are values of the VARIABLES with which all CONDITIONS hold (none is "
            + "asked for)");
        for (int variables = 0; variables <= 4; variables++) {
            PathSolver x = new PathSolver();
            for (int v = 0; v < variables; v++) {
                x.variable(v == 3 ? 1 : 3, v % 2 == 1);
            }
            DUE.is("check() with " + variables + " variables", x.check(), 1);
            for (int v = 0; v < 4; v++) {
                DUE.is("model(" + v + ") of " + variables, x.model(v), v < variables ? 0 : -1);
            }
            DUE.is("follows()", x.follows(), 0);
        }
    }

    private static void noVariables() {
        DUE.by("Whether THE PATH is FEASIBLE: YES .. or NO");
        for (int holds = 0; holds < 2; holds++) {
            PathSolver x = new PathSolver();
            x.take(x.constant(1, holds));
            DUE.is("check() of the constant " + holds, x.check(), holds);
            DUE.is("a model is there or not: follows()", x.follows(), holds == 1 ? 1 : -1);
            DUE.is("model(0)", x.model(0), -1);
        }
    }

    /** Every choice of values of ten bits can be the only one, from the first to the last. */
    private static void justOneChoice() {
        DUE.by("YES, and THE MODEL is set");
        int[][] layouts = {{8, 2}, {2, 8}, {1, 8}, {5, 5}, {7, 3}, {8, 1}};
        for (int[] bits : layouts) {
            int count = 1 << (bits[0] + bits[1]);
            for (int choice = 0; choice < count; choice += bits[0] == 8 ? 1 : 7) {
                int first = choice >> bits[1];
                int second = choice & ((1 << bits[1]) - 1);
                PathSolver x = new PathSolver();
                x.variable(bits[0], false);
                x.variable(bits[1], false);
                x.take(x.term(13, 1, x.constant(8, second), 0));
                x.take(x.term(13, 0, x.constant(8, first), 0));
                DUE.is("check() for " + first + ", " + second, x.check(), 1);
                DUE.is("model(0)", x.model(0), first);
                DUE.is("model(1)", x.model(1), second);
            }
        }
    }

    /** The last choice of all and one other: the other one is the model. */
    private static void theFirstOfTwo() {
        DUE.by("THE MODEL is then the first of these");
        for (int choice = 0; choice < 1023; choice += 11) {
            PathSolver x = new PathSolver();
            x.variable(8, true);
            x.variable(2, true);
            int ones = x.constant(8, -1);
            int high = x.constant(8, choice >> 2);
            int low = x.constant(8, (choice & 3) >= 2 ? (choice & 3) - 4 : choice & 3);
            int one = x.term(2, x.term(13, 0, high, 0), x.term(13, 1, low, 0), 0);
            int last = x.term(2, x.term(13, 0, ones, 0), x.term(13, 1, ones, 0), 0);
            x.take(x.term(3, one, last, 0));
            DUE.is("check() for " + choice, x.check(), 1);
            DUE.is("model(0)", x.model(0), choice >> 2);
            DUE.is("model(1)", x.model(1), choice & 3);
        }
    }

    private static void yesSetsTheModel() {
        DUE.by("YES, and THE MODEL is set");
        PathSolver x = new PathSolver();
        x.variable(4, false);
        x.take(x.term(14, x.constant(8, 6), 0, 0));
        DUE.is("no model before", x.model(0), -1);
        DUE.is("check()", x.check(), 1);
        DUE.is("model(0)", x.model(0), 7);
        x.variable(2, false);
        DUE.is("the next one is not in it", x.model(1), -1);
        DUE.is("check() again", x.check(), 1);
        DUE.is("it is now", x.model(1), 0);
        x.take(x.term(14, x.constant(8, 9), 0, 0));
        DUE.is("check() of both", x.check(), 1);
        DUE.is("model(0)", x.model(0), 10);
        x.back();
        x.back();
        DUE.is("check() of none", x.check(), 1);
        DUE.is("model(0)", x.model(0), 0);
    }

    private static void noLeavesTheModel() {
        DUE.by("or NO, and it stays as it was");
        PathSolver x = new PathSolver();
        x.variable(3, false);
        int seen = x.term(20, 0, 0, 0);
        x.entry(0, 5, 1);
        x.take(x.term(19, seen, 1, 0));
        x.check();
        DUE.is("model(0)", x.model(0), 5);
        x.variable(3, true);
        x.take(x.constant(1, 0));
        for (int i = 1; i <= 3; i++) {
            DUE.is("check()", x.check(), 0);
            DUE.is("model(0)", x.model(0), 5);
            DUE.is("model(1)", x.model(1), -1);
            DUE.is("value(0)", x.value(0), 5);
            DUE.is("value of the table's term", x.value(seen), 1);
            DUE.is("follows()", x.follows(), 1);
            DUE.is("FEASIBLE ones", x.count(4), 1);
            DUE.is("others", x.count(5), i);
        }
        x.back();
        DUE.is("check() when it is FEASIBLE again", x.check(), 1);
        DUE.is("model(1)", x.model(1), 0);
    }

    private static void noLeavesNoModel() {
        DUE.by("or NO, and it stays as it was");
        PathSolver x = new PathSolver();
        x.variable(3, false);
        x.take(x.term(14, x.constant(8, 7), 0, 0));
        DUE.is("check()", x.check(), 0);
        DUE.is("model(0)", x.model(0), -1);
        DUE.is("value(0)", x.value(0), PathSolver.NONE);
        DUE.is("follows()", x.follows(), -1);
    }

    /** Conditions that leave one value less each: the sixteenth leaves just one, or none. */
    private static void sixteenConditions() {
        DUE.by("all CONDITIONS asked for hold");
        for (int bits = 4; bits <= 5; bits++) {
            PathSolver x = new PathSolver();
            x.variable(bits, false);
            for (int i = 0; i < 16; i++) {
                x.take(x.term(0, x.term(13, 0, x.constant(8, i), 0), 0, 0));
                boolean some = i < 15 || bits == 5;
                DUE.is("check() of " + (i + 1), x.check(), some ? 1 : 0);
                DUE.is("model(0)", x.model(0), some ? i + 1 : 15);
            }
            x.back();
            x.take(x.term(13, 0, x.constant(8, 0), 0));
            DUE.is("check() with v is 0 at the end", x.check(), 0);
        }
    }

    /** What was found out about conditions stays right when others join them. */
    private static void oneConditionMore() {
        DUE.by("all CONDITIONS asked for hold");
        PathSolver x = new PathSolver();
        x.variable(8, false);
        int[] above = {3, 100, 50};
        for (int number : above) {
            x.take(x.term(14, x.constant(8, number), 0, 0));
        }
        DUE.is("check()", x.check(), 1);
        DUE.is("model(0)", x.model(0), 101);
        x.take(x.term(0, x.term(19, 0, 1, 0), 0, 0));
        DUE.is("check() with one more", x.check(), 1);
        DUE.is("model(0)", x.model(0), 102);
        x.back();
        DUE.is("check() with one less", x.check(), 1);
        DUE.is("model(0)", x.model(0), 101);
        x.back();
        x.back();
        DUE.is("check() with the first", x.check(), 1);
        DUE.is("model(0)", x.model(0), 4);
    }
}
