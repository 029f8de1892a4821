/** Promises 14 to 17, sentence by sentence: the first term, the last, and those that are none. */
public final class FactsBoundaryTest {
    private static final int MIN = Integer.MIN_VALUE;
    private static final int MAX = Integer.MAX_VALUE;
    private static final Due DUE = new Due();

    public static void main(String[] args) {
        widthOfATerm();
        operationOfATerm();
        operandsOfEachOperation();
        operandsOfNoOperation();
        operandsAfterChangesOfPlace();
        operandsOfNoTerm();
        sixtyFourTerms();
        whatIsCounted();
        countsAtTheirEnds();
        checksOfAllCalls();
        DUE.end();
    }

    private static void widthOfATerm() {
        DUE.by("The WIDTH of a TERM; REFUSED if there is no such.");
        int[] widths = {1, 8, 16, 32, 64};
        for (int count = 0; count <= 5; count++) {
            int made = count;
            Situation now = new Situation("with " + count + " terms", x -> {
                for (int i = 0; i < made; i++) {
                    x.constant(widths[i], 1);
                }
            });
            for (int term = 0; term < count; term++) {
                int given = term;
                now.unchanged(DUE, "width(" + term + ")", widths[term], x -> x.width(given));
            }
            int[] wrong = {-1, count, count + 1, 63, 64, MIN, MAX};
            for (int term : wrong) {
                now.unchanged(DUE, "width(" + term + ")", -1, x -> x.width(term));
            }
        }
    }

    private static void operationOfATerm() {
        DUE.by("The operation of a TERM, 21 for a constant, 22 for a VARIABLE; REFUSED if there is "
            + "no such.");
        Situation now = new Situation("with three terms", x -> {
            x.constant(8, 1);
            x.variable(3, false);
            x.term(0, 1, 0, 0);
        });
        int[] operations = {21, 22, 0};
        for (int term = 0; term < 3; term++) {
            int given = term;
            now.unchanged(DUE, "operation(" + term + ")", operations[term], x -> x.operation(given));
        }
        int[] wrong = {-1, 3, 63, 64, MIN, MAX};
        for (int term : wrong) {
            now.unchanged(DUE, "operation(" + term + ")", -1, x -> x.operation(term));
        }
        for (int operation = 0; operation <= 20; operation++) {
            PathSolver x = new PathSolver();
            DUE.is("operation " + operation, x.operation(made(x, operation)), operation);
        }
    }

    /** A term of the operation. Terms 0 and 1 are variables, 2 is the bit cut from 0. */
    private static int made(PathSolver x, int operation) {
        x.variable(3, false);
        x.variable(3, false);
        x.term(19, 0, 1, 0);
        return x.term(operation, operation == 16 ? 2 : 0, secondOf(operation), 0);
    }

    private static int secondOf(int operation) {
        if (operation == 17) {
            return 16;
        }
        return operation == 18 ? 64 : 1;
    }

    private static void operandsOfEachOperation() {
        DUE.by("Operand i 0 .. 2 of a TERM of an operation (the WIDTH or TABLE for b of 17 to 20); "
            + "REFUSED if it has no such.");
        for (int operation = 0; operation <= 20; operation++) {
            int asked = operation;
            int named = operation <= 1 ? 1 : operation == 16 ? 3 : 2;
            PathSolver y = new PathSolver();
            int term = made(y, operation);
            Situation now = new Situation("of operation " + operation, x -> made(x, asked));
            int[] due = {operation == 16 ? 2 : 0, secondOf(operation), 0};
            for (int i = 0; i < 3; i++) {
                int place = i;
                now.unchanged(DUE, "operand " + i, i < named ? due[i] : -1,
                    x -> x.operand(term, place));
            }
            int[] wrong = {-1, 3, 4, MIN, MAX};
            for (int i : wrong) {
                now.unchanged(DUE, "operand " + i, -1, x -> x.operand(term, i));
            }
        }
    }

    private static void operandsOfNoOperation() {
        DUE.by("Operand i 0 .. 2 of a TERM of an operation; REFUSED if it has no such.");
        Situation now = new Situation("of a variable and a constant", x -> {
            x.variable(3, false);
            x.constant(8, 1);
            x.variable(3, false);
        });
        for (int term = 0; term < 3; term++) {
            for (int i = -1; i <= 3; i++) {
                int given = term;
                int place = i;
                now.unchanged(DUE, "operand(" + term + ", " + i + ")", -1,
                    x -> x.operand(given, place));
            }
        }
        PathSolver x = new PathSolver();
        int sum = x.term(5, x.constant(8, 1), x.constant(8, 2), 0);
        DUE.is("a constant that was a sum", x.operand(sum, 0), -1);
    }

    private static void operandsAfterChangesOfPlace() {
        DUE.by("Operand i 0 .. 2 of a TERM of an operation, after changes of place");
        PathSolver x = new PathSolver();
        x.variable(3, false);
        x.variable(3, false);
        int product = x.term(7, 1, 0, 0);
        DUE.is("operand 0 of w * v", x.operand(product, 0), 0);
        DUE.is("operand 1 of w * v", x.operand(product, 1), 1);
        int less = x.term(14, 1, 0, 0);
        DUE.is("operand 0 of w LESS v", x.operand(less, 0), 1);
        DUE.is("operand 1 of w LESS v", x.operand(less, 1), 0);
    }

    private static void operandsOfNoTerm() {
        DUE.by("operand: REFUSED if it has no such.");
        Situation now = new Situation("with a choice", x -> made(x, 16));
        int terms = now.make().count(0);
        int[] wrong = {-1, terms, 63, 64, 65, MIN, MAX};
        for (int term : wrong) {
            for (int i = -1; i <= 3; i++) {
                int place = i;
                now.unchanged(DUE, "operand(" + term + ", " + i + ")", -1,
                    x -> x.operand(term, place));
            }
        }
    }

    private static void sixtyFourTerms() {
        DUE.by("REFUSED if there is no such.");
        Situation full = new Situation("with 64 terms", x -> {
            x.variable(3, false);
            Situation.constants(x, 62);
            x.term(19, 0, 1, 0);
        });
        full.unchanged(DUE, "width(63)", 1, x -> x.width(63));
        full.unchanged(DUE, "width(64)", -1, x -> x.width(64));
        full.unchanged(DUE, "operation(63)", 19, x -> x.operation(63));
        full.unchanged(DUE, "operation(64)", -1, x -> x.operation(64));
        full.unchanged(DUE, "operand(63, 0)", 0, x -> x.operand(63, 0));
        full.unchanged(DUE, "operand(63, 1)", 1, x -> x.operand(63, 1));
        full.unchanged(DUE, "operand(63, 2)", -1, x -> x.operand(63, 2));
        full.unchanged(DUE, "operand(64, 0)", -1, x -> x.operand(64, 0));
    }

    private static void whatIsCounted() {
        DUE.by("count: 0 .. 5. Else REFUSED.");
        for (Situation now : Situation.all()) {
            for (int what = 0; what < 6; what++) {
                int given = what;
                long count = now.make().count(what);
                DUE.holds("count(" + what + ") is one", count >= 0);
                now.unchanged(DUE, "count(" + what + ")", count, x -> x.count(given));
            }
            int[] wrong = {-1, 6, 7, MIN, MAX};
            for (int what : wrong) {
                now.unchanged(DUE, "count(" + what + ")", -1, x -> x.count(what));
            }
        }
    }

    private static void countsAtTheirEnds() {
        DUE.by("0: TERMS; 1: the sum of all COSTS; 2: CONDITIONS on THE PATH; 3: VARIABLES; 4: checks "
            + "that were FEASIBLE; 5: those that were not.");
        Situation fresh = new Situation("of a new object", x -> { });
        for (int what = 0; what < 6; what++) {
            int given = what;
            fresh.gives(DUE, "count(" + what + ")", 0, x -> x.count(given));
        }
        Situation.fullOfTerms().gives(DUE, "terms", 64, x -> x.count(0));
        Situation.fullOfCost().gives(DUE, "the cost", 400, x -> x.count(1));
        Situation.fullPath().gives(DUE, "conditions", 16, x -> x.count(2));
        Situation.fourVariables().gives(DUE, "variables", 4, x -> x.count(3));
        PathSolver x = new PathSolver();
        x.take(x.constant(1, 1));
        for (int i = 1; i <= 100; i++) {
            x.check();
            x.flip(0);
            x.flip(1);
            DUE.is("those that were FEASIBLE", x.count(4), i);
            DUE.is("those that were not", x.count(5), i);
        }
    }

    /** As many checks as 512 calls can make, of both kinds. */
    private static void checksOfAllCalls() {
        DUE.by("4: checks (check, and flip, counted also inside search) that were FEASIBLE; "
            + "5: those that were not.");
        PathSolver x = new PathSolver();
        x.constant(1, 1);
        for (int i = 0; i < 16; i++) {
            x.take(0);
        }
        for (int i = 1; i <= 400; i++) {
            DUE.is("search(16) of what can't fail", x.search(16), -1);
        }
        DUE.is("those that were not", x.count(5), 16 * 400);
        DUE.is("those that were FEASIBLE", x.count(4), 0);
        PathSolver y = new PathSolver();
        for (int i = 1; i <= 500; i++) {
            DUE.is("check()", y.check(), 1);
        }
        DUE.is("those that were FEASIBLE", y.count(4), 500);
        DUE.is("those that were not", y.count(5), 0);
    }
}
