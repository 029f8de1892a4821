/**
 * Section Terms: "A refused call changes nothing. Numbers out of their ranges are REFUSED in every
 * call." Every call with the numbers next to its ranges and far from them, on objects of all kinds.
 */
public final class RefusedCallTest {
    private static final int MIN = Integer.MIN_VALUE;
    private static final int MAX = Integer.MAX_VALUE;
    private static final int[] WIDTHS = {1, 8, 16, 32, 64};

    private final Due due;
    private final Situation now;
    private final int terms;
    private final int length;
    private final int variables;

    private RefusedCallTest(Due due, Situation now) {
        this.due = due;
        this.now = now;
        PathSolver x = now.make();
        terms = x.count(0);
        length = x.count(2);
        variables = x.count(3);
    }

    public static void main(String[] args) {
        Due due = new Due();
        due.by("A refused call changes nothing. Numbers out of their ranges are REFUSED in every call.");
        for (Situation now : Situation.all()) {
            RefusedCallTest test = new RefusedCallTest(due, now);
            test.variables();
            test.constants();
            test.entries();
            test.operations();
            test.operands();
            test.widthsAndTables();
            test.conditions();
            test.places();
            test.models();
            test.facts();
            test.counts();
        }
        refusedBeforeFull(due);
        due.end();
    }

    /** Where a call is to be refused and there is no room either, it is refused. */
    private static void refusedBeforeFull(Due due) {
        Situation full = Situation.fullOfTerms();
        full.unchanged(due, "variable(0, true)", -1, x -> x.variable(0, true));
        full.unchanged(due, "variable(9, true)", -1, x -> x.variable(9, true));
        full.unchanged(due, "variable(3, true)", -1, x -> x.variable(3, true));
        full.unchanged(due, "variable(2, true)", -2, x -> x.variable(2, true));
        full.unchanged(due, "constant(2, 1)", -1, x -> x.constant(2, 1));
        full.unchanged(due, "term(5, 0, 64, 0)", -1, x -> x.term(5, 0, 64, 0));
        full.unchanged(due, "term(17, 0, 8, 0)", -1, x -> x.term(17, 0, 8, 0));
        Situation dear = Situation.fullOfCost();
        dear.gives(due, "the cost", 400, x -> x.count(1));
        dear.unchanged(due, "term(0, 0, 0, 0)", -2, x -> x.term(0, 0, 0, 0));
        dear.unchanged(due, "term(0, 6, 0, 0)", -2, x -> x.term(0, 6, 0, 0));
        dear.unchanged(due, "term(5, 0, 99, 0)", -1, x -> x.term(5, 0, 99, 0));
        dear.unchanged(due, "term(20, 0, 2, 0)", -1, x -> x.term(20, 0, 2, 0));
    }

    private void refused(String text, Situation.Call call) {
        now.unchanged(due, text, PathSolver.REFUSED, call);
    }

    private void variables() {
        int[] wrong = {0, 9, -1, 10, 257, -8, MIN, MAX};
        for (int bits : wrong) {
            refused("variable(" + bits + ", false)", x -> x.variable(bits, false));
            refused("variable(" + bits + ", true)", x -> x.variable(bits, true));
        }
    }

    private void constants() {
        int[] wrong = {0, 2, 7, 9, 15, 17, 31, 33, 63, 65, -1, -8, -64, 128, 257, 264, MIN, MAX};
        for (int width : wrong) {
            refused("constant(" + width + ", 0)", x -> x.constant(width, 0));
        }
    }

    private void entries() {
        int[][] wrong = {{-1, 0}, {2, 0}, {-1, 7}, {2, 7}, {0, -1}, {0, 8}, {1, -1}, {1, 8}, {2, 8},
            {-1, 8}, {2, -1}, {MIN, 0}, {MAX, 0}, {0, MIN}, {1, MAX}, {256, 0}, {1, 256}};
        for (int[] row : wrong) {
            refused("entry(" + row[0] + ", " + row[1] + ", 99)", x -> x.entry(row[0], row[1], 99));
        }
    }

    private void operations() {
        int[] wrong = {-1, 21, 22, 23, 256, 261, MIN, MAX};
        for (int operation : wrong) {
            term(operation, 0, 0, 0);
            term(operation, terms - 1, terms - 1, terms - 1);
        }
    }

    /** Each operand that an operation names, with the numbers next to those of the terms. */
    private void operands() {
        int[] wrong = {-1, terms, 64, MIN, MAX};
        for (int none : wrong) {
            for (int operation = 0; operation <= 20; operation++) {
                term(operation, none, operation < 17 ? 0 : fittingB(operation), 0);
            }
            for (int operation = 2; operation <= 15; operation++) {
                term(operation, 0, none, 0);
                term(operation, none, none, 0);
            }
            int condition = Math.max(0, firstOfWidth(1));
            term(16, condition, none, 0);
            term(16, condition, 0, none);
            term(16, condition, none, none);
        }
    }

    private static int fittingB(int operation) {
        switch (operation) {
            case 17: case 18: return 64;
            case 19: return 1;
            default: return 0;
        }
    }

    private int firstOfWidth(int width) {
        PathSolver x = now.make();
        for (int term = 0; term < terms; term++) {
            if (x.width(term) == width) {
                return term;
            }
        }
        return -1;
    }

    /** What stands in place of b of 17 to 20, and widths of a that an operation does not take. */
    private void widthsAndTables() {
        for (int width : WIDTHS) {
            int a = firstOfWidth(width);
            if (a >= 0) {
                newWidths(a, width);
                ofWrongWidth(a, width);
            }
        }
    }

    private void newWidths(int a, int width) {
        int[] wrong = {0, -1, 2, 7, 9, 15, 17, 31, 33, 63, 65, MIN, MAX, width};
        for (int b : wrong) {
            term(17, a, b, 0);
            term(18, a, b, 0);
            term(19, a, b, 0);
        }
        for (int b : WIDTHS) {
            if (b < width) {
                term(17, a, b, 0);
                term(18, a, b, 0);
            } else {
                term(19, a, b, 0);
            }
        }
        int[] noTables = {-1, 2, MIN, MAX};
        for (int b : noTables) {
            term(20, a, b, 0);
        }
    }

    private void ofWrongWidth(int a, int width) {
        if (width > 16) {
            term(7, a, a, 0);
        }
        if (width != 8) {
            term(8, a, a, 0);
            term(9, a, a, 0);
            term(20, a, 0, 0);
            term(20, a, 1, 0);
        }
        if (width != 1) {
            term(16, a, a, a);
        }
        for (int other : WIDTHS) {
            int b = firstOfWidth(other);
            if (b < 0 || other == width) {
                continue;
            }
            for (int operation = 2; operation <= 15; operation++) {
                term(operation, a, b, 0);
            }
            term(16, firstOfWidth(1), a, b);
        }
    }

    private void term(int operation, int a, int b, int c) {
        refused("term(" + operation + ", " + a + ", " + b + ", " + c + ")",
            x -> x.term(operation, a, b, c));
    }

    private void conditions() {
        int[] wrong = {-1, terms, 64, MIN, MAX};
        for (int condition : wrong) {
            refused("take(" + condition + ")", x -> x.take(condition));
        }
        for (int width : WIDTHS) {
            int wide = firstOfWidth(width);
            if (width > 1 && wide >= 0) {
                refused("take(" + wide + ") of width " + width, x -> x.take(wide));
            }
        }
        if (length == 0) {
            refused("back()", PathSolver::back);
        }
    }

    private void places() {
        int[] wrong = {-1, length, length + 1, 16, MIN, MAX};
        for (int k : wrong) {
            refused("flip(" + k + ")", x -> x.flip(k));
        }
        int[] none = {0, -1, MIN};
        for (int limit : none) {
            now.unchanged(due, "search(" + limit + ")", -1, x -> x.search(limit));
        }
    }

    private void models() {
        int[] wrong = {-1, variables, 4, MIN, MAX};
        for (int v : wrong) {
            refused("model(" + v + ")", x -> x.model(v));
        }
        int[] none = {-1, terms, 64, MIN, MAX};
        for (int term : none) {
            now.unchanged(due, "value(" + term + ")", PathSolver.NONE, x -> x.value(term));
        }
        if (now.make().follows() == PathSolver.REFUSED) {
            refused("model(0)", x -> x.model(0));
            refused("follows()", PathSolver::follows);
            now.unchanged(due, "value(0)", PathSolver.NONE, x -> x.value(0));
        }
    }

    private void facts() {
        int[] wrong = {-1, terms, 64, MIN, MAX};
        for (int term : wrong) {
            refused("width(" + term + ")", x -> x.width(term));
            refused("operation(" + term + ")", x -> x.operation(term));
            for (int i = 0; i < 3; i++) {
                int place = i;
                refused("operand(" + term + ", " + i + ")", x -> x.operand(term, place));
            }
        }
        int[] noPlaces = {-1, 3, MIN, MAX};
        for (int i : noPlaces) {
            refused("operand(0, " + i + ")", x -> x.operand(0, i));
            refused("operand of the last, " + i, x -> x.operand(terms - 1, i));
        }
    }

    private void counts() {
        int[] wrong = {-1, 6, MIN, MAX};
        for (int what : wrong) {
            refused("count(" + what + ")", x -> x.count(what));
        }
    }
}
