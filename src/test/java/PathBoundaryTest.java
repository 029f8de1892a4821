/** Promises 6 and 7, sentence by sentence: paths of no condition, of sixteen, and of any between. */
public final class PathBoundaryTest {
    private static final int MIN = Integer.MIN_VALUE;
    private static final int MAX = Integer.MAX_VALUE;
    private static final Due DUE = new Due();

    public static void main(String[] args) {
        joinsTheEnd();
        noTerms();
        notOfWidthOne();
        sixteen();
        refusedBeforeFull();
        howManyAreLeft();
        emptyPath();
        roomAfterBack();
        differentOnesAskedAtOnce();
        DUE.end();
    }

    /** The first conditions of "v is not 0", "v is not 1" .. : flip(k) then finds k. */
    private static Situation withLength(int length) {
        return new Situation("with " + length + " conditions", x -> {
            x.variable(5, false);
            x.variable(5, false);
            for (int i = 0; i < 16; i++) {
                x.term(0, x.term(13, 0, x.constant(8, i), 0), 0, 0);
            }
            for (int i = 0; i < length; i++) {
                x.take(isNot(i));
            }
            x.flip(0);
        });
    }

    /** The number of the term "v is not i"; with 15 it is the last one. */
    private static int isNot(int i) {
        return 4 + 3 * i;
    }

    private static void joinsTheEnd() {
        DUE.by("The CONDITION joins the end of THE PATH: how many there are.");
        for (int length = 0; length < 16; length++) {
            PathSolver x = withLength(length).make();
            DUE.is("take", x.take(isNot(15)), length + 1);
            DUE.is("conditions", x.count(2), length + 1);
            DUE.is("flip of the new one", x.flip(length), 1);
            DUE.is("model(0)", x.model(0), 15);
            DUE.is("place after it", x.flip(length + 1), -1);
            for (int k = 0; k < length; k++) {
                DUE.is("flip of one before", x.flip(k), 1);
                DUE.is("model(0)", x.model(0), k);
            }
        }
    }

    private static void noTerms() {
        DUE.by("take: It is no TERM .. REFUSED");
        int[] lengths = {0, 1, 15};
        for (int length : lengths) {
            Situation now = withLength(length);
            int[] wrong = {-1, 50, 64, MIN, MAX};
            for (int condition : wrong) {
                now.unchanged(DUE, "take(" + condition + ")", -1, x -> x.take(condition));
            }
        }
    }

    private static void notOfWidthOne() {
        DUE.by("take: .. or not of WIDTH 1: REFUSED");
        int[] widths = {1, 8, 16, 32, 64};
        Situation now = new Situation("with terms of all widths", x -> {
            x.variable(3, false);
            for (int w : widths) {
                x.constant(w, 1);
            }
            x.term(19, 0, 1, 0);
            x.term(17, 6, 8, 0);
        });
        now.gives(DUE, "take of a constant of width 1", 1, x -> x.take(1));
        now.gives(DUE, "take of a bit", 1, x -> x.take(6));
        int[] wrong = {0, 2, 3, 4, 5, 7};
        for (int condition : wrong) {
            now.unchanged(DUE, "take(" + condition + ")", -1, x -> x.take(condition));
        }
    }

    private static void sixteen() {
        DUE.by("take: 16: FULL.");
        withLength(15).gives(DUE, "take of the 16th", 16, x -> x.take(isNot(15)));
        Situation full = withLength(16);
        full.unchanged(DUE, "take of the 17th", -2, x -> x.take(isNot(15)));
        full.unchanged(DUE, "take of the first again", -2, x -> x.take(isNot(0)));
        Situation.fullPath().unchanged(DUE, "take(4)", -2, x -> x.take(4));
    }

    private static void refusedBeforeFull() {
        DUE.by("It is no TERM or not of WIDTH 1: REFUSED. 16: FULL.");
        Situation full = withLength(16);
        full.unchanged(DUE, "take(-1)", -1, x -> x.take(-1));
        full.unchanged(DUE, "take(50)", -1, x -> x.take(50));
        full.unchanged(DUE, "take(0)", -1, x -> x.take(0));
    }

    private static void howManyAreLeft() {
        DUE.by("THE PATH loses its last CONDITION: how many are left.");
        for (int length = 1; length <= 16; length++) {
            int left = length - 1;
            Situation now = withLength(length);
            now.gives(DUE, "back()", left, PathSolver::back);
            PathSolver x = now.make();
            x.back();
            DUE.is("conditions", x.count(2), left);
            DUE.is("flip of the place that is gone", x.flip(left), -1);
            for (int k = 0; k < left; k++) {
                DUE.is("flip of one that stays", x.flip(k), 1);
                DUE.is("model(0)", x.model(0), k);
            }
        }
    }

    private static void emptyPath() {
        DUE.by("back: It is empty: REFUSED.");
        withLength(1).gives(DUE, "back()", 0, PathSolver::back);
        withLength(0).unchanged(DUE, "back()", -1, PathSolver::back);
        new Situation("after back()", x -> {
            Situation.model(x);
            x.back();
            x.back();
            x.back();
        }).unchanged(DUE, "back()", -1, PathSolver::back);
        PathSolver x = withLength(16).make();
        for (int left = 15; left >= 0; left--) {
            DUE.is("back()", x.back(), left);
        }
        DUE.is("back() of none", x.back(), -1);
        DUE.is("back() of none again", x.back(), -1);
        DUE.is("the next take", x.take(isNot(3)), 1);
        DUE.is("and back()", x.back(), 0);
    }

    private static void roomAfterBack() {
        DUE.by("take: 16: FULL.");
        PathSolver x = withLength(16).make();
        DUE.is("back()", x.back(), 15);
        DUE.is("take", x.take(isNot(15)), 16);
        DUE.is("take again", x.take(isNot(15)), -2);
        DUE.is("back()", x.back(), 15);
        DUE.is("back()", x.back(), 14);
        DUE.is("take", x.take(isNot(15)), 15);
        DUE.is("take", x.take(isNot(14)), 16);
        DUE.is("take", x.take(isNot(14)), -2);
        DUE.is("flip(14)", x.flip(14), 1);
        DUE.is("model(0)", x.model(0), 15);
        DUE.is("flip(15)", x.flip(15), 1);
        DUE.is("model(0)", x.model(0), 14);
    }

    /** "0 is below v", "1 is below v", .. : the next call is the first that asks about them. */
    private static PathSolver rising(int length) {
        PathSolver x = new PathSolver();
        x.variable(8, false);
        for (int i = 0; i < length; i++) {
            x.take(x.term(14, x.constant(8, i), 0, 0));
        }
        return x;
    }

    private static void differentOnesAskedAtOnce() {
        DUE.by("THE PATH is a row of at most 16 CONDITIONS.");
        for (int length = 1; length <= 16; length++) {
            PathSolver x = rising(length);
            DUE.is("check() of " + length, x.check(), 1);
            DUE.is("model(0)", x.model(0), length);
            DUE.is("follows()", x.follows(), length);
            PathSolver y = rising(length);
            DUE.is("search(16) of " + length, y.search(16), length - 1);
            DUE.is("model(0)", y.model(0), length - 1);
            DUE.is("follows()", y.follows(), length - 1);
            for (int k = 0; k < length; k++) {
                PathSolver z = rising(length);
                DUE.is("flip(" + k + ") of " + length, z.flip(k), 1);
                DUE.is("model(0)", z.model(0), k);
                DUE.is("follows()", z.follows(), k);
            }
        }
    }
}
