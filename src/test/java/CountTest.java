/** Promise 17: count. */
public final class CountTest {
    private static final Due DUE = new Due();

    public static void main(String[] args) {
        PathSolver x = new PathSolver();
        int[] wrong = {-1, 6, 7, 100, Integer.MIN_VALUE, Integer.MAX_VALUE};
        for (int what : wrong) {
            DUE.is("count(" + what + ")", x.count(what), -1);
        }
        counts(x, 0, 0, 0, 0, 0, 0);
        int v = x.variable(4, false);
        counts(x, 1, 0, 0, 1, 0, 0);
        int eight = x.constant(8, 8);
        counts(x, 2, 0, 0, 1, 0, 0);
        int less = x.term(14, v, eight, 0);
        counts(x, 3, 8, 0, 1, 0, 0);
        x.take(less);
        x.take(less);
        counts(x, 3, 8, 2, 1, 0, 0);
        x.check();
        counts(x, 3, 8, 2, 1, 1, 0);
        x.flip(1);
        counts(x, 3, 8, 2, 1, 1, 1);
        x.flip(0);
        counts(x, 3, 8, 2, 1, 2, 1);
        x.search(2);
        counts(x, 3, 8, 2, 1, 3, 2);
        x.back();
        counts(x, 3, 8, 1, 1, 3, 2);
        x.take(x.constant(1, 0));
        x.check();
        counts(x, 4, 8, 2, 1, 3, 3);
        x.check();
        counts(x, 4, 8, 2, 1, 3, 4);
        x.value(v);
        x.model(0);
        x.follows();
        x.flip(9);
        x.search(0);
        x.entry(0, 0, 1);
        counts(x, 4, 8, 2, 1, 3, 4);
        DUE.end();
    }

    private static void counts(PathSolver x, int... due) {
        for (int what = 0; what < due.length; what++) {
            DUE.is("count(" + what + ")", x.count(what), due[what]);
        }
    }
}
