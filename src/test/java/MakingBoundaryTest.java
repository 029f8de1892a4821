/** Section Terms, MAKING the TERM of an operation: each step where it just fits, and just does not. */
public final class MakingBoundaryTest {
    private static final int[] WIDTHS = {1, 8, 16, 32, 64};
    private static final Due DUE = new Due();

    public static void main(String[] args) {
        allOperandsOrAllButOne();
        choicesOfConstantsButOne();
        entriesNow();
        placesChangeAtGreaterNumbers();
        sameOrAlmostTheSame();
        settledChoices();
        for (int w : WIDTHS) {
            zeros(w);
            numbersNextToZero(w);
            undoing(w);
        }
        sameOperandsWidthAndTable();
        sameConstants();
        firstThatFits();
        stepsWithSixtyFourTerms();
        unnamedOperandsDoNotCount();
        DUE.end();
    }

    private static void allOperandsOrAllButOne() {
        DUE.by("1. All operands are constants: the constant that results");
        for (int operation = 0; operation <= 20; operation++) {
            int b = operation == 19 ? 1 : operation == 20 ? 1 : operation >= 17 ? 16 : 2;
            PathSolver x = new PathSolver();
            x.constant(1, 1);
            x.constant(8, 5);
            x.constant(8, 3);
            x.variable(4, false);
            x.term(19, 3, 1, 0);
            int a = operation == 16 ? 0 : 1;
            DUE.is("operation of " + operation + " of constants",
                x.operation(x.term(operation, a, operation == 16 ? 1 : b, 2)), 21);
            DUE.is("cost of " + operation + " of constants", x.count(1), 0);
            a = operation == 16 ? 4 : 3;
            DUE.is("operation of " + operation + " with a variable at a",
                x.operation(x.term(operation, a, operation == 16 ? 1 : b, 2)), operation);
            if (operation >= 2 && operation <= 15) {
                DUE.is("operation of " + operation + " with a variable at b",
                    x.operation(x.term(operation, 1, 3, 2)), operation);
            }
        }
    }

    private static void choicesOfConstantsButOne() {
        DUE.by("1. All operands are constants: the constant that results");
        for (int holds = 0; holds < 2; holds++) {
            PathSolver x = new PathSolver();
            int a = x.constant(1, holds);
            int five = x.constant(8, 5);
            int six = x.constant(8, 6);
            int v = x.variable(3, false);
            DUE.is("a choice of three constants", x.term(16, a, five, six), holds == 1 ? five : six);
            DUE.is("with a variable at b", x.term(16, a, v, six), holds == 1 ? v : six);
            DUE.is("with a variable at c", x.term(16, a, five, v), holds == 1 ? five : v);
            int bit = x.term(19, v, 1, 0);
            DUE.is("with a bit at a", x.operation(x.term(16, bit, five, six)), 16);
        }
    }

    private static void entriesNow() {
        DUE.by("1. .. the constant that results (for 20 by the entries now)");
        PathSolver x = new PathSolver();
        x.check();
        for (int i = 0; i < 8; i++) {
            int place = x.constant(8, i + 8);
            for (int t = 0; t < 2; t++) {
                int before = x.term(20, place, t, 0);
                x.entry(t, i, 100 + i);
                int after = x.term(20, place, t, 0);
                DUE.is("before the entry", x.value(before), 0);
                DUE.is("after the entry", x.value(after), 100 + i);
            }
        }
    }

    private static void placesChangeAtGreaterNumbers() {
        DUE.by("2. The operation is 2, 3, 4, 5, 7 or 13 and a has a greater number than b: "
            + "a and b change places.");
        for (int operation = 2; operation <= 15; operation++) {
            boolean changes = operation <= 5 || operation == 7 || operation == 13;
            for (int low = 0; low < 2; low++) {
                PathSolver x = new PathSolver();
                for (int v = 0; v < 3; v++) {
                    x.variable(3, false);
                }
                int high = low + 1;
                int made = x.term(operation, high, low, 0);
                DUE.is("operand 0 of " + operation, x.operand(made, 0), changes ? low : high);
                DUE.is("operand 1 of " + operation, x.operand(made, 1), changes ? high : low);
                DUE.is("the same again", x.term(operation, high, low, 0), made);
                int other = x.term(operation, low, high, 0);
                DUE.is("operand 0 as it is given", x.operand(other, 0), low);
                DUE.is("operand 1 as it is given", x.operand(other, 1), high);
                DUE.holds("one term or two of " + operation, (other == made) == changes);
            }
        }
        PathSolver x = new PathSolver();
        x.variable(3, false);
        int twice = x.term(5, 0, 0, 0);
        DUE.is("operand 0 of v + v", x.operand(twice, 0), 0);
        DUE.is("operand 1 of v + v", x.operand(twice, 1), 0);
    }

    /** Terms that always have the same value are still two terms. */
    private static void sameOrAlmostTheSame() {
        DUE.by("3. a and b are the same TERM: 2, 3: a; 4, 6: the constant 0; 13: 1; 14, 15: 0.");
        for (int operation = 2; operation <= 15; operation++) {
            PathSolver x = new PathSolver();
            int v = x.variable(3, false);
            int low = x.term(19, x.term(17, v, 16, 0), 8, 0);
            DUE.is("operation " + operation + " of two terms with the same value",
                x.operation(x.term(operation, v, low, 0)), operation);
            int same = x.term(operation, v, v, 0);
            x.check();
            switch (operation) {
                case 2: case 3:
                    DUE.is("operation " + operation + " of the same", same, v);
                    break;
                case 4: case 6:
                    constant(x, same, 8, 0);
                    break;
                case 13:
                    constant(x, same, 1, -1);
                    break;
                case 14: case 15:
                    constant(x, same, 1, 0);
                    break;
                default:
                    DUE.is("operation " + operation + " of the same", x.operation(same), operation);
                    break;
            }
        }
    }

    private static void constant(PathSolver x, int term, int width, long value) {
        DUE.is("operation of the constant", x.operation(term), 21);
        DUE.is("width of the constant", x.width(term), width);
        DUE.is("value of the constant", x.value(term), value);
    }

    private static void settledChoices() {
        DUE.by("3. .. b and c of 16 are the same: b. a of 16 is a constant: b or c.");
        PathSolver x = new PathSolver();
        int v = x.variable(3, false);
        int w = x.variable(3, false);
        int bit = x.term(19, v, 1, 0);
        int yes = x.constant(1, 1);
        int no = x.constant(1, 0);
        DUE.is("the same", x.term(16, bit, w, w), w);
        DUE.is("a is 1", x.term(16, yes, v, w), v);
        DUE.is("a is 0", x.term(16, no, v, w), w);
        DUE.is("a is 1 and b is 0", x.term(16, yes, no, bit), no);
        DUE.is("a is 0 and c is 1", x.term(16, no, bit, yes), yes);
        DUE.is("a is open", x.operation(x.term(16, bit, v, w)), 16);
        int five = x.constant(8, 5);
        int six = x.constant(8, 6);
        DUE.is("a is open, b and c are constants", x.operation(x.term(16, bit, five, six)), 16);
        DUE.is("a is b", x.operation(x.term(16, bit, bit, no)), 16);
        DUE.is("a is c", x.operation(x.term(16, bit, no, bit)), 16);
    }

    private static int ofWidth(PathSolver x, int v, int w) {
        if (w == 8) {
            return v;
        }
        return x.term(w == 1 ? 19 : 17, v, w, 0);
    }

    /** The constant 0 with a lower number than the other operand, and with a greater one. */
    private static void zeros(int w) {
        DUE.by("4. one of a, b is the constant 0: of 3, 4, 5: the other one; of 2, 7: the constant "
            + "0. b is the constant 0: of 6, 10, 11, 12: a.");
        for (int order = 0; order < 2; order++) {
            for (int operation = 2; operation <= 15; operation++) {
                PathSolver x = new PathSolver();
                if (order == 0) {
                    x.constant(w, 0);
                }
                int a = ofWidth(x, x.variable(3, false), w);
                int zero = x.constant(w, 0);
                String text = " of " + operation + " width " + w;
                if (!isThere(operation, w)) {
                    DUE.is("0" + text, x.term(operation, a, zero, 0), -1);
                    continue;
                }
                boolean gives = operation <= 7 || operation >= 10 && operation <= 12;
                boolean onLeft = operation <= 5 || operation == 7;
                int due = operation == 2 || operation == 7 ? zero : a;
                int next = x.count(0);
                DUE.is("0 at b" + text, x.term(operation, a, zero, 0), gives ? due : next);
                int left = x.term(operation, zero, a, 0);
                if (onLeft) {
                    DUE.is("0 at a" + text, left, due);
                } else {
                    DUE.is("0 at a" + text, x.operation(left), operation);
                }
            }
        }
    }

    private static boolean isThere(int operation, int w) {
        if (operation == 7) {
            return w <= 16;
        }
        return (operation != 8 && operation != 9) || w == 8;
    }

    /** Constants that are 0 only in their low bits, and constants next to 0, are not 0. */
    private static void numbersNextToZero(int w) {
        DUE.by("4. one of a, b is the constant 0");
        long[] values = {1, -1, -1L << (w - 1), w > 8 ? 256 : 1, w > 16 ? 65536 : 1,
            w > 32 ? 1L << 32 : 1};
        for (int operation = 2; operation <= 12; operation++) {
            for (long value : values) {
                PathSolver x = new PathSolver();
                int a = ofWidth(x, x.variable(3, false), w);
                int number = x.constant(w, value);
                if (isThere(operation, w)) {
                    DUE.is("operation " + operation + " with " + value + " at b",
                        x.operation(x.term(operation, a, number, 0)), operation);
                }
            }
        }
        PathSolver x = new PathSolver();
        int a = ofWidth(x, x.variable(3, false), w);
        int zero = w == 64 ? x.constant(64, 0) : x.constant(w, 1L << w);
        DUE.is("2^" + w + " of width " + w + " is 0", x.term(5, a, zero, 0), a);
        int number = ofWidth(x, x.variable(1, false), w);
        DUE.is("a variable is no constant 0", x.operation(x.term(5, a, number, 0)), 5);
    }

    private static void undoing(int w) {
        DUE.by("5. a of 0 is a TERM of 0, or a of 1 one of 1: that one's operand.");
        PathSolver x = new PathSolver();
        int a = ofWidth(x, x.variable(3, false), w);
        int not = x.term(0, a, 0, 0);
        int neg = x.term(1, a, 0, 0);
        DUE.is("NOT of NOT", x.term(0, not, 0, 0), a);
        DUE.is("NEG of NEG", x.term(1, neg, 0, 0), a);
        DUE.is("NOT of NEG", x.operation(x.term(0, neg, 0, 0)), 0);
        DUE.is("NEG of NOT", x.operation(x.term(1, not, 0, 0)), 1);
        DUE.is("NOT of NOT of NOT", x.term(0, x.term(0, not, 0, 0), 0, 0), not);
        DUE.is("NEG of NEG of NEG", x.term(1, x.term(1, neg, 0, 0), 0, 0), neg);
    }

    private static void sameOperandsWidthAndTable() {
        DUE.by("6. a TERM of the same operation with the same operands "
            + "(and the same WIDTH or TABLE) is there: that one.");
        int[][] rows = {{17, 0, 16}, {17, 0, 32}, {17, 0, 64}, {18, 0, 16}, {18, 0, 32}, {18, 0, 64},
            {19, 0, 1}, {20, 0, 0}, {20, 0, 1}, {20, 1, 0}, {17, 1, 16}, {10, 0, 1}, {11, 0, 1},
            {12, 0, 1}, {10, 1, 0}, {14, 0, 1}, {14, 1, 0}, {15, 0, 1}, {15, 1, 0}, {6, 0, 1},
            {6, 1, 0}};
        PathSolver x = new PathSolver();
        x.variable(5, false);
        x.variable(5, false);
        for (int i = 0; i < rows.length; i++) {
            int[] row = rows[i];
            DUE.is("row " + i + " is new", x.term(row[0], row[1], row[2], 0), 2 + i);
        }
        int cost = x.count(1);
        for (int i = 0; i < rows.length; i++) {
            int[] row = rows[i];
            DUE.is("row " + i + " is there", x.term(row[0], row[1], row[2], 0), 2 + i);
        }
        DUE.is("the cost stays", x.count(1), cost);
        PathSolver y = new PathSolver();
        int bit = y.term(19, y.variable(3, false), 1, 0);
        int other = y.term(19, y.variable(3, false), 1, 0);
        int first = y.term(16, bit, 0, 2);
        DUE.is("the same choice", y.term(16, bit, 0, 2), first);
        DUE.is("b and c the other way round", y.term(16, bit, 2, 0), first + 1);
        DUE.is("another a", y.term(16, other, 0, 2), first + 2);
    }

    private static void sameConstants() {
        DUE.by("7. .. A constant is the TERM of that WIDTH and VALUE, if there is one, else a new "
            + "one.");
        PathSolver x = new PathSolver();
        for (int i = 0; i < WIDTHS.length; i++) {
            DUE.is("0 of width " + WIDTHS[i], x.constant(WIDTHS[i], 0), 2 * i);
            DUE.is("all ones of width " + WIDTHS[i], x.constant(WIDTHS[i], -1), 2 * i + 1);
        }
        for (int i = 0; i < WIDTHS.length; i++) {
            int w = WIDTHS[i];
            DUE.is("0 again", x.constant(w, 0), 2 * i);
            DUE.is("all ones again", x.constant(w, -1), 2 * i + 1);
            DUE.is("NOT 0", x.term(0, 2 * i, 0, 0), 2 * i + 1);
            DUE.is("NEG 0", x.term(1, 2 * i, 0, 0), 2 * i);
            if (w < 64) {
                DUE.is("2^w", x.constant(w, 1L << w), 2 * i);
                DUE.is("2^w - 1", x.constant(w, (1L << w) - 1), 2 * i + 1);
            }
        }
        DUE.is("all are there", x.count(0), 10);
        DUE.is("a variable's term is no constant", x.variable(1, false), 10);
        DUE.is("1 of width 8 is new", x.constant(8, 1), 11);
        DUE.is("1 of width 16 is another", x.constant(16, 1), 12);
    }

    /** Where two steps would fit, the one that comes before gives another answer. */
    private static void firstThatFits() {
        DUE.by("MAKING the TERM of an operation, the first that fits");
        PathSolver x = new PathSolver();
        x.check();
        int zero = x.constant(8, 0);
        int ones = x.constant(8, -1);
        DUE.is("0 SUB 255 by step 1", x.value(x.term(6, zero, ones, 0)), 1);
        DUE.is("255 XOR 255 by step 1", x.term(4, ones, ones, 0), zero);
        int neg = x.constant(8, 1);
        DUE.is("NEG of 1 by step 1", x.term(1, neg, 0, 0), ones);
        DUE.is("NEG of 255 by step 1", x.term(1, ones, 0, 0), neg);
        int v = x.variable(3, false);
        int bit = x.term(19, v, 1, 0);
        int no = x.constant(1, 0);
        DUE.is("bit AND bit by step 3", x.term(2, bit, bit, 0), bit);
        DUE.is("SAME of a bit and 0 is a new term", x.operation(x.term(13, bit, no, 0)), 13);
        int moved = x.term(10, v, v, 0);
        DUE.is("v LEFT v by step 7", x.operation(moved), 10);
        DUE.is("v LEFT v by step 6", x.term(10, v, v, 0), moved);
        int not = x.term(0, v, 0, 0);
        DUE.is("NOT NOT v by step 5, not 7", x.term(0, not, 0, 0), v);
        DUE.is("no term of NOT NOT v is there", x.count(0), not + 1);
    }

    /** With 64 terms, what is there is still given, and nothing else. */
    private static void stepsWithSixtyFourTerms() {
        DUE.by("A new TERM would be the 65th: FULL");
        Situation full = new Situation("with 64 terms", MakingBoundaryTest::sixtyFour);
        full.unchanged(DUE, "1 + 2 (step 1, there)", 4, x -> x.term(5, 2, 3, 0));
        full.unchanged(DUE, "2 * 3 (step 1, new)", -2, x -> x.term(7, 3, 4, 0));
        full.unchanged(DUE, "w + v (step 2, there)", 7, x -> x.term(5, 1, 0, 0));
        full.unchanged(DUE, "w XOR v (step 2, new)", -2, x -> x.term(4, 1, 0, 0));
        full.unchanged(DUE, "v AND v (step 3)", 0, x -> x.term(2, 0, 0, 0));
        full.unchanged(DUE, "v OR v (step 3)", 0, x -> x.term(3, 0, 0, 0));
        full.unchanged(DUE, "v XOR v (step 3, there)", 5, x -> x.term(4, 0, 0, 0));
        full.unchanged(DUE, "v SUB v (step 3, there)", 5, x -> x.term(6, 0, 0, 0));
        full.unchanged(DUE, "v SAME v (step 3, new)", -2, x -> x.term(13, 0, 0, 0));
        full.unchanged(DUE, "v LESS v (step 3, new)", -2, x -> x.term(14, 0, 0, 0));
        full.unchanged(DUE, "v SIGNED LESS v (step 3, new)", -2, x -> x.term(15, 0, 0, 0));
        full.unchanged(DUE, "16-bit SUB of the same (step 3, new)", -2, x -> x.term(6, 9, 9, 0));
        full.unchanged(DUE, "CHOICE of the same (step 3)", 1, x -> x.term(16, 8, 1, 1));
        full.unchanged(DUE, "v + 0 (step 4)", 0, x -> x.term(5, 0, 5, 0));
        full.unchanged(DUE, "v * 0 (step 4)", 5, x -> x.term(7, 0, 5, 0));
        full.unchanged(DUE, "v LEFT 0 (step 4)", 0, x -> x.term(10, 0, 5, 0));
        full.unchanged(DUE, "NOT NOT v (step 5)", 0, x -> x.term(0, 6, 0, 0));
        full.unchanged(DUE, "NOT v (step 6)", 6, x -> x.term(0, 0, 0, 0));
        full.unchanged(DUE, "v cut to 1 (step 6)", 8, x -> x.term(19, 0, 1, 0));
        full.unchanged(DUE, "w cut to 1 (step 7)", -2, x -> x.term(19, 1, 1, 0));
        full.unchanged(DUE, "NEG v (step 7)", -2, x -> x.term(1, 0, 0, 0));
        full.unchanged(DUE, "constant(8, 1)", 2, x -> x.constant(8, 1));
        full.unchanged(DUE, "constant(8, 257)", 2, x -> x.constant(8, 257));
        full.unchanged(DUE, "constant(8, 4)", -2, x -> x.constant(8, 4));
        full.unchanged(DUE, "constant(16, 1)", -2, x -> x.constant(16, 1));
    }

    /** 0, 1: v, w; 2 to 5: 1, 2, 3, 0; 6: NOT v; 7: v + w; 8: v's low bit; 9: v of 16 bits. */
    private static void sixtyFour(PathSolver x) {
        x.variable(3, false);
        x.variable(3, false);
        x.constant(8, 1);
        x.constant(8, 2);
        x.constant(8, 3);
        x.constant(8, 0);
        x.term(0, 0, 0, 0);
        x.term(5, 0, 1, 0);
        x.term(19, 0, 1, 0);
        x.term(17, 0, 16, 0);
        for (int i = 10; i < 64; i++) {
            x.constant(64, i);
        }
        x.take(8);
        x.check();
    }

    private static void unnamedOperandsDoNotCount() {
        DUE.by("those that it does not name may be any int");
        int[] any = {0, 1, -1, 63, 64, Integer.MIN_VALUE, Integer.MAX_VALUE};
        for (int operation = 0; operation <= 20; operation++) {
            if (operation == 16) {
                continue;
            }
            PathSolver x = new PathSolver();
            x.variable(3, false);
            x.variable(3, false);
            int b = operation < 17 ? 1 : operation == 19 || operation == 20 ? 1 : 64;
            for (int odd : any) {
                DUE.is("term(" + operation + ") with c " + odd, x.term(operation, 0, b, odd), 2);
                if (operation <= 1) {
                    DUE.is("term(" + operation + ") with b " + odd, x.term(operation, 0, odd, b), 2);
                }
            }
        }
    }
}
