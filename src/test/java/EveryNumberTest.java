/**
 * Section Terms: "TERMS are numbered 0, 1, .. as they come to be, at most 64". A term of each kind
 * with each of the 64 numbers: it is found again, has its facts and its value, and can be taken.
 */
public final class EveryNumberTest {
    private static final int LAST = 63;
    private static final Due DUE = new Due();

    public static void main(String[] args) {
        DUE.by("TERMS are numbered 0, 1, .. as they come to be, at most 64");
        for (int n = 0; n <= LAST; n++) {
            constants(n);
            variables(n);
        }
        for (int n = 2; n <= LAST; n++) {
            sums(n);
            conditions(n);
            conditionsOfEntries(n);
        }
        DUE.end();
    }

    /** Constants that no test asks for, until so many terms are there. */
    private static void fill(PathSolver x, int terms) {
        for (int i = x.count(0); i < terms; i++) {
            x.constant(64, 1000 + i);
        }
    }

    private static void facts(PathSolver x, int term, int width, int operation, int a, int b) {
        DUE.is("width(" + term + ")", x.width(term), width);
        DUE.is("operation(" + term + ")", x.operation(term), operation);
        DUE.is("operand(" + term + ", 0)", x.operand(term, 0), a);
        DUE.is("operand(" + term + ", 1)", x.operand(term, 1), b);
        DUE.is("operand(" + term + ", 2)", x.operand(term, 2), -1);
    }

    private static void constants(int n) {
        PathSolver x = new PathSolver();
        fill(x, n);
        DUE.is("the constant", x.constant(16, -7), n);
        facts(x, n, 16, 21, -1, -1);
        DUE.is("it is no condition", x.take(n), -1);
        DUE.is("value(" + n + ") without a model", x.value(n), PathSolver.NONE);
        x.check();
        DUE.is("value(" + n + ")", x.value(n), -7);
        DUE.is("value(" + (n + 1) + ")", x.value(n + 1), PathSolver.NONE);
        DUE.is("the same constant", x.constant(16, 65529), n);
        DUE.is("terms", x.count(0), n + 1);
    }

    private static void variables(int n) {
        PathSolver x = new PathSolver();
        fill(x, n);
        DUE.is("the variable", x.variable(3, true), n);
        facts(x, n, 8, 22, -1, -1);
        DUE.is("variables", x.count(3), 1);
        if (n < LAST) {
            int bit = x.term(19, n, 1, 0);
            DUE.is("its low bit", bit, n + 1);
            facts(x, bit, 1, 19, n, 1);
            DUE.is("its low bit again", x.term(19, n, 1, 0), bit);
            DUE.is("it is a condition", x.take(bit), 1);
            DUE.is("check()", x.check(), 1);
            DUE.is("model(0)", x.model(0), 1);
            DUE.is("value of the variable", x.value(n), 1);
            DUE.is("value of its bit", x.value(bit), -1);
            DUE.is("flip(0)", x.flip(0), 1);
            DUE.is("value of the variable", x.value(n), 0);
            DUE.is("value of its bit", x.value(bit), 0);
        }
    }

    private static void sums(int n) {
        PathSolver x = new PathSolver();
        x.variable(3, false);
        x.variable(3, true);
        fill(x, n);
        DUE.is("the sum", x.term(5, 1, 0, 0), n);
        facts(x, n, 8, 5, 0, 1);
        DUE.is("the same sum", x.term(5, 0, 1, 0), n);
        DUE.is("terms", x.count(0), n + 1);
        x.check();
        DUE.is("value(" + n + ")", x.value(n), 0);
        DUE.is("the difference is another", x.term(6, 0, 1, 0), n < LAST ? n + 1 : -2);
    }

    private static void conditions(int n) {
        PathSolver x = new PathSolver();
        x.variable(3, false);
        x.variable(3, true);
        fill(x, n);
        DUE.is("the condition", x.term(14, 0, 1, 0), n);
        facts(x, n, 1, 14, 0, 1);
        DUE.is("the same condition", x.term(14, 0, 1, 0), n);
        DUE.is("it is taken", x.take(n), 1);
        DUE.is("check()", x.check(), 1);
        DUE.is("model(1)", x.model(1), 1);
        DUE.is("value(" + n + ")", x.value(n), -1);
        DUE.is("follows()", x.follows(), 1);
        DUE.is("flip(0)", x.flip(0), 1);
        DUE.is("model(1)", x.model(1), 0);
        DUE.is("value(" + n + ")", x.value(n), 0);
        DUE.is("follows()", x.follows(), 0);
    }

    /** The condition is asked about, then an entry that it looks up is set. */
    private static void conditionsOfEntries(int n) {
        PathSolver x = new PathSolver();
        x.variable(3, false);
        fill(x, n - 1);
        int seen = x.term(20, 0, 1, 0);
        DUE.is("what is looked up", seen, n - 1);
        facts(x, seen, 8, 20, 0, 1);
        DUE.is("the same again", x.term(20, 0, 1, 0), seen);
        int bit = x.term(19, seen, 1, 0);
        DUE.is("its low bit", bit, n);
        x.take(bit);
        DUE.is("check() before", x.check(), 0);
        x.entry(1, 6, 5);
        DUE.is("check() after", x.check(), 1);
        DUE.is("model(0)", x.model(0), 6);
        DUE.is("value of what is looked up", x.value(seen), 5);
        DUE.is("value of its bit", x.value(bit), -1);
    }
}
