/** Promise 1, sentence by sentence: there is nothing yet, and asking makes nothing. */
public final class NewObjectBoundaryTest {
    private static final Due DUE = new Due();

    public static void main(String[] args) {
        nothingAtFirst();
        DUE.end();
    }

    private static void nothingAtFirst() {
        DUE.by("PathSolver(): No VARIABLES and TERMS, an empty PATH, no MODEL.");
        Situation fresh = new Situation("on a new object", x -> { });
        fresh.gives(DUE, "variables", 0, x -> x.count(3));
        fresh.gives(DUE, "terms", 0, x -> x.count(0));
        fresh.gives(DUE, "conditions", 0, x -> x.count(2));
        fresh.unchanged(DUE, "width(0)", -1, x -> x.width(0));
        fresh.unchanged(DUE, "operation(0)", -1, x -> x.operation(0));
        fresh.unchanged(DUE, "operand(0, 0)", -1, x -> x.operand(0, 0));
        fresh.unchanged(DUE, "take(0)", -1, x -> x.take(0));
        fresh.unchanged(DUE, "back()", -1, PathSolver::back);
        fresh.unchanged(DUE, "flip(0)", -1, x -> x.flip(0));
        fresh.unchanged(DUE, "search(1)", -1, x -> x.search(1));
        fresh.unchanged(DUE, "model(0)", -1, x -> x.model(0));
        fresh.unchanged(DUE, "value(0)", PathSolver.NONE, x -> x.value(0));
        fresh.unchanged(DUE, "follows()", -1, PathSolver::follows);
        fresh.unchanged(DUE, "term(0, 0, 0, 0)", -1, x -> x.term(0, 0, 0, 0));
        fresh.gives(DUE, "the first variable", 0, x -> x.variable(8, true));
        fresh.gives(DUE, "the first constant", 0, x -> x.constant(64, 0));
    }
}
