/** Promise 1: no variables and terms, an empty path, no model. */
public final class NewObjectTest {
    public static void main(String[] args) {
        Due due = new Due();
        PathSolver x = new PathSolver();
        for (int what = 0; what < 6; what++) {
            due.is("count(" + what + ")", x.count(what), 0);
        }
        due.is("width(0)", x.width(0), -1);
        due.is("operation(0)", x.operation(0), -1);
        due.is("operand(0, 0)", x.operand(0, 0), -1);
        due.is("take(0)", x.take(0), -1);
        due.is("term(0, 0, 0, 0)", x.term(0, 0, 0, 0), -1);
        due.is("back()", x.back(), -1);
        due.is("flip(0)", x.flip(0), -1);
        due.is("search(1)", x.search(1), -1);
        due.is("model(0)", x.model(0), -1);
        due.is("follows()", x.follows(), -1);
        due.is("value(0)", x.value(0), PathSolver.NONE);
        int constant = x.constant(8, 1);
        due.is("constant(8, 1)", constant, 0);
        due.is("value of a constant without a model", x.value(constant), PathSolver.NONE);
        objectsAreApart(due);
        due.end();
    }

    private static void objectsAreApart(Due due) {
        PathSolver one = new PathSolver();
        PathSolver other = new PathSolver();
        one.variable(8, true);
        one.entry(0, 0, 7);
        one.take(one.constant(1, 1));
        one.check();
        due.is("terms of the other", other.count(0), 0);
        due.is("path of the other", other.count(2), 0);
        due.is("checks of the other", other.count(4), 0);
        due.is("follows of the other", other.follows(), -1);
        int zero = other.constant(8, 0);
        due.is("entries of the other", other.term(20, zero, 0, 0), zero);
    }
}
