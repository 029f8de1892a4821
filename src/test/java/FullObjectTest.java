/** All promises on an object with 64 terms, 10 bits and 16 conditions: nothing goes past an end. */
public final class FullObjectTest {
    private static final Due DUE = new Due();

    public static void main(String[] args) {
        PathSolver x = new PathSolver();
        int v = x.variable(8, false);
        x.variable(2, false);
        int seen = x.term(20, v, 1, 0);
        for (int i = 3; i < 63; i++) {
            DUE.is("constant " + i, x.constant(8, i), i);
        }
        int last = x.term(13, seen, v, 0);
        DUE.is("the last term", last, 63);
        for (int i = 1; i <= 16; i++) {
            DUE.is("take " + i, x.take(last), i);
        }
        DUE.is("check()", x.check(), 1);
        DUE.is("model(0)", x.model(0), 0);
        DUE.is("value of the last term", x.value(last), -1);
        DUE.is("follows()", x.follows(), 16);
        DUE.is("flip(15)", x.flip(15), 0);
        DUE.is("search(16)", x.search(16), 0);
        DUE.is("model(0)", x.model(0), 1);
        DUE.is("entry(1, 0, 255)", x.entry(1, 0, 255), 0);
        DUE.is("check() after the entry", x.check(), 0);
        DUE.is("entry(1, 7, 255)", x.entry(1, 7, 255), 0);
        DUE.is("check() after the next", x.check(), 1);
        DUE.is("model(0)", x.model(0), 255);
        DUE.is("model(1)", x.model(1), 0);
        full(x, last);
        DUE.end();
    }

    private static void full(PathSolver x, int last) {
        DUE.is("variable", x.variable(1, false), -1);
        DUE.is("constant", x.constant(8, 100), -2);
        DUE.is("term", x.term(0, last, 0, 0), -2);
        DUE.is("take", x.take(last), -2);
        DUE.is("width(63)", x.width(63), 1);
        DUE.is("width(64)", x.width(64), -1);
        DUE.is("operation(63)", x.operation(63), 13);
        DUE.is("operation(64)", x.operation(64), -1);
        DUE.is("operand(63, 0)", x.operand(63, 0), 0);
        DUE.is("operand(63, 1)", x.operand(63, 1), 2);
        DUE.is("operand(63, 2)", x.operand(63, 2), -1);
        DUE.is("value(64)", x.value(64), PathSolver.NONE);
        int[] counts = {64, 48, 16, 2, 3, 17};
        for (int what = 0; what < 6; what++) {
            DUE.is("count(" + what + ")", x.count(what), counts[what]);
        }
    }
}
