import java.util.ArrayList;
import java.util.Arrays;
import java.util.List;

/** Section Terms, MAKING the TERM of an operation: the steps for each operation and each width. */
public final class EveryWidthTest {
    private static final int[] WIDTHS = {1, 8, 16, 32, 64};
    private static final Due DUE = new Due();

    private final int operation;
    private final int w;
    private final String text;
    private final int[] wide = new int[3];
    private final int[] bits = new int[2];

    private EveryWidthTest(int operation, int w) {
        this.operation = operation;
        this.w = w;
        text = " of operation " + operation + ", width " + w;
        withOperands();
    }

    public static void main(String[] args) {
        for (int operation = 0; operation <= 20; operation++) {
            for (int w : WIDTHS) {
                EveryWidthTest test = new EveryWidthTest(operation, w);
                if (test.isThere()) {
                    test.ofConstants();
                    test.ofTheSame();
                    test.newTerms();
                    test.sharedTerms();
                    test.sharedWithSixtyFourTerms();
                    test.ofItsOwnTerms();
                }
            }
        }
        for (int w : WIDTHS) {
            new EveryWidthTest(16, w).settledChoices();
        }
        changesOfWidthInARow();
        lookUpsOfLookUps();
        DUE.end();
    }

    private boolean isThere() {
        switch (operation) {
            case 7: return w <= 16;
            case 8: case 9: case 20: return w == 8;
            case 17: case 18: return w < 64;
            case 19: return w > 1;
            default: return true;
        }
    }

    private boolean changesPlaces() {
        return operation >= 2 && operation <= 5 || operation == 7 || operation == 13;
    }

    private int cost() {
        switch (operation) {
            case 7: return w == 1 ? 2 : w == 8 ? 81 : 321;
            case 8: case 9: return 100;
            case 10: case 11: case 12: return 3 * w;
            case 17: case 18: case 19: return 0;
            case 20: return 40;
            default: return w;
        }
    }

    private int widthOfResult(int b) {
        if (operation >= 13 && operation <= 15) {
            return 1;
        }
        return operation >= 17 && operation <= 19 ? b : w;
    }

    private int named() {
        return operation <= 1 ? 1 : operation == 16 ? 3 : 2;
    }

    /** Three terms of the width and two conditions that are no constants and cost nothing. */
    private PathSolver withOperands() {
        PathSolver x = new PathSolver();
        x.variable(3, false);
        x.variable(3, true);
        x.variable(2, false);
        for (int v = 0; v < wide.length; v++) {
            int wider = x.term(17, v, w <= 8 ? 16 : w, 0);
            wide[v] = w <= 8 ? x.term(19, wider, w, 0) : wider;
        }
        for (int v = 0; v < bits.length; v++) {
            bits[v] = x.term(19, v, 1, 0);
        }
        return x;
    }

    /** The operands with which the operation is asked for, no two rows alike. */
    private List<int[]> rows() {
        int p = wide[0];
        int q = wide[1];
        int r = wide[2];
        if (operation <= 1) {
            return List.of(new int[] {p, 0, 0}, new int[] {q, 0, 0});
        }
        if (operation <= 15) {
            return List.of(new int[] {p, q, 0}, new int[] {q, p, 0}, new int[] {p, r, 0},
                new int[] {r, p, 0}, new int[] {q, r, 0}, new int[] {r, q, 0});
        }
        if (operation == 16) {
            return List.of(new int[] {bits[0], p, q}, new int[] {bits[0], q, p},
                new int[] {bits[0], p, r}, new int[] {bits[0], r, q}, new int[] {bits[1], p, q});
        }
        List<int[]> rows = new ArrayList<>();
        for (int b : operation == 20 ? new int[] {0, 1} : WIDTHS) {
            if (operation == 20 || (operation == 19 ? b < w : b > w)) {
                rows.add(new int[] {p, b, 0});
                rows.add(new int[] {q, b, 0});
            }
        }
        return rows;
    }

    private int make(PathSolver x, int[] row) {
        return x.term(operation, row[0], row[1], row[2]);
    }

    private boolean isSame(int[] one, int[] other) {
        boolean turned = changesPlaces() && one[0] == other[1] && one[1] == other[0];
        return turned || Arrays.equals(one, other);
    }

    private void ofConstants() {
        DUE.by("1. All operands are constants: the constant that results");
        PathSolver x = new PathSolver();
        int bit = x.constant(1, 1);
        int a = x.constant(w, 5);
        int b = x.constant(w, w == 1 ? 0 : 3);
        int[] row = operation == 16 ? new int[] {bit, a, b} : new int[] {a, b, 0};
        if (operation >= 17) {
            row[1] = operation == 20 ? 1 : operation == 19 ? 1 : 64;
        }
        int made = make(x, row);
        DUE.is("what it is" + text, x.operation(made), 21);
        DUE.is("its width" + text, x.width(made), widthOfResult(row[1]));
        DUE.is("the cost" + text, x.count(1), 0);
    }

    /** The same term twice: what step 3 says, and a new term where it says nothing. */
    private void ofTheSame() {
        if (operation < 2 || operation > 15) {
            return;
        }
        DUE.by("3. a and b are the same TERM: 2, 3: a; 4, 6: the constant 0; 13: 1; 14, 15: 0.");
        PathSolver x = withOperands();
        int next = x.count(0);
        int made = x.term(operation, wide[2], wide[2], 0);
        boolean known = operation <= 4 || operation == 6 || operation >= 13;
        DUE.is("the same twice" + text, made, operation == 2 || operation == 3 ? wide[2] : next);
        DUE.is("the cost" + text, x.count(1), known ? 0 : cost());
        if (made == next) {
            DUE.is("what it is" + text, x.operation(made), known ? 21 : operation);
            DUE.is("its width" + text, x.width(made), widthOfResult(0));
            x.check();
            DUE.holds("its value" + text, !known || x.value(made) == (operation == 13 ? -1 : 0));
        }
    }

    private void newTerms() {
        for (int[] row : rows()) {
            PathSolver x = withOperands();
            int next = x.count(0);
            DUE.by("7. a new TERM");
            DUE.is("the new one" + text, make(x, row), next);
            DUE.is("terms" + text, x.count(0), next + 1);
            DUE.is("its operation" + text, x.operation(next), operation);
            DUE.is("its width" + text, x.width(next), widthOfResult(row[1]));
            DUE.by("COST of a new TERM");
            DUE.is("its cost" + text, x.count(1), cost());
            DUE.by("2. The operation is 2, 3, 4, 5, 7 or 13 and a has a greater number than b: "
                + "a and b change places.");
            boolean turned = changesPlaces() && row[0] > row[1];
            int[] due = turned ? new int[] {row[1], row[0], row[2]} : row;
            for (int i = 0; i < 3; i++) {
                DUE.is("operand " + i + text, x.operand(next, i), i < named() ? due[i] : -1);
            }
        }
    }

    private void sharedTerms() {
        DUE.by("6. a TERM of the same operation with the same operands "
            + "(and the same WIDTH or TABLE) is there: that one.");
        for (int[] one : rows()) {
            for (int[] other : rows()) {
                PathSolver x = withOperands();
                int made = make(x, one);
                int room = 2 * cost() <= 400 ? made + 1 : PathSolver.FULL;
                String operands = Arrays.toString(one) + " and then " + Arrays.toString(other);
                DUE.is(operands + text, make(x, other), isSame(one, other) ? made : room);
            }
        }
    }

    /** The 64th term is found again as any other, and another one has no room. */
    private void sharedWithSixtyFourTerms() {
        DUE.by("6. a TERM of the same operation with the same operands "
            + "(and the same WIDTH or TABLE) is there: that one.");
        List<int[]> rows = rows();
        for (int[] row : rows) {
            PathSolver x = withOperands();
            for (int i = x.count(0); i < 63; i++) {
                x.constant(64, 1000 + i);
            }
            DUE.is("the 64th" + text, make(x, row), 63);
            for (int[] other : rows) {
                DUE.is("with 64 terms" + text, make(x, other), isSame(row, other) ? 63 : -2);
            }
        }
    }

    private void settledChoices() {
        DUE.by("3. .. b and c of 16 are the same: b. a of 16 is a constant: b or c.");
        PathSolver x = withOperands();
        int yes = x.constant(1, 1);
        int no = x.constant(1, 0);
        int terms = x.count(0);
        DUE.is("b and c are the same" + text, x.term(16, bits[0], wide[1], wide[1]), wide[1]);
        DUE.is("a is 1" + text, x.term(16, yes, wide[0], wide[1]), wide[0]);
        DUE.is("a is 0" + text, x.term(16, no, wide[0], wide[1]), wide[1]);
        DUE.is("there is no new term" + text, x.count(0), terms);
        int one = x.constant(w, 1);
        int ones = w == 1 ? no : x.constant(w, -1);
        DUE.is("all are constants, a is 1" + text, x.term(16, yes, one, ones), one);
        DUE.is("all are constants, a is 0" + text, x.term(16, no, one, ones), ones);
        DUE.is("all are constants, b and c turned" + text, x.term(16, no, ones, one), one);
        DUE.is("the cost" + text, x.count(1), 0);
    }

    /** Only NOT of NOT and NEG of NEG are undone: a term of the operation is an operand as any. */
    private void ofItsOwnTerms() {
        if (operation < 2 || operation > 16 || operation >= 13 && operation <= 15 && w > 1) {
            return;
        }
        DUE.by("5. a of 0 is a TERM of 0, or a of 1 one of 1: that one's operand.");
        for (int place = operation == 16 && w > 1 ? 1 : 0; place < named(); place++) {
            for (int order = 0; order < 2; order++) {
                PathSolver x = withOperands();
                int inner = make(x, rows().get(0));
                int other = order == 0 ? wide[2] : madeLater(x);
                int[] row = {operation == 16 ? bits[1] : other, other, wide[1]};
                row[place] = inner;
                int next = x.count(0);
                DUE.is("a term of itself at " + place + text, make(x, row),
                    2 * cost() <= 400 ? next : PathSolver.FULL);
            }
        }
    }

    /** One more term of the width, with a greater number than those that are there. */
    private int madeLater(PathSolver x) {
        int wider = x.term(18, 2, w <= 8 ? 16 : w, 0);
        return w <= 8 ? x.term(19, wider, w, 0) : wider;
    }

    private static void lookUpsOfLookUps() {
        DUE.by("7. a new TERM.");
        for (int first = 0; first < 2; first++) {
            for (int second = 0; second < 2; second++) {
                PathSolver x = new PathSolver();
                int inner = x.term(20, x.variable(3, false), first, 0);
                DUE.is("LOOK UP in " + first, inner, 1);
                DUE.is("LOOK UP of it in " + second, x.term(20, inner, second, 0), 2);
            }
        }
    }

    /** WIDEN, SIGN WIDEN and CUT of one another: none undoes another. */
    private static void changesOfWidthInARow() {
        DUE.by("7. a new TERM.");
        for (int first = 17; first <= 19; first++) {
            for (int second = 17; second <= 19; second++) {
                for (int between : WIDTHS) {
                    for (int last : WIDTHS) {
                        inARow(first, between, second, last);
                    }
                }
            }
        }
    }

    private static void inARow(int first, int between, int second, int last) {
        for (int w : WIDTHS) {
            if (!isTo(first, w, between) || !isTo(second, between, last)) {
                continue;
            }
            EveryWidthTest test = new EveryWidthTest(first, w);
            PathSolver x = test.withOperands();
            // NOT makes it another term than those that the operands come from.
            int a = x.term(0, test.wide[0], 0, 0);
            int made = x.term(first, a, between, 0);
            DUE.is("operation " + first + " from " + w + " to " + between, made, a + 1);
            DUE.is("then operation " + second + " to " + last, x.term(second, made, last, 0),
                a + 2);
        }
    }

    private static boolean isTo(int operation, int from, int to) {
        return operation == 19 ? to < from : to > from;
    }
}
