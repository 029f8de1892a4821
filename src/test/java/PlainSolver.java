import java.math.BigInteger;
import java.util.ArrayList;
import java.util.List;

/**
 * The document once more, by the plainest means: values are numbers not below 0, terms are
 * evaluated from their operands each time, and every assignment is tried. Shares no code with
 * PathSolver, so that a test can compare the two.
 */
final class PlainSolver {
    private static final List<Integer> WIDTHS = List.of(1, 8, 16, 32, 64);

    private record Variable(int bits, boolean signed, int term) { }

    /** The value is that of a constant; operands beside those that are named are -1. */
    private record Term(int operation, int width, int a, int b, int c, BigInteger value) { }

    private final List<Variable> variables = new ArrayList<>();
    private final List<Term> terms = new ArrayList<>();
    private final List<Integer> path = new ArrayList<>();
    private final int[][] tables = new int[2][8];
    private int[] model = null;
    private int cost = 0;
    private int feasible = 0;
    private int infeasible = 0;

    int variable(int bits, boolean signed) {
        int together = 0;
        for (Variable variable : variables) {
            together += variable.bits();
        }
        if (bits < 1 || bits > 8 || variables.size() == 4 || together + bits > 10) {
            return -1;
        }
        if (terms.size() == 64) {
            return -2;
        }
        variables.add(new Variable(bits, signed, terms.size()));
        terms.add(new Term(22, 8, -1, -1, -1, null));
        return terms.size() - 1;
    }

    int constant(int width, long value) {
        return WIDTHS.contains(width) ? constantOf(width, BigInteger.valueOf(value)) : -1;
    }

    private int constantOf(int width, BigInteger value) {
        return find(new Term(21, width, -1, -1, -1, cut(width, value)), 0);
    }

    /** The same term if it is there, else a new one if there is room. */
    private int find(Term term, int newCost) {
        int there = terms.indexOf(term);
        if (there >= 0 && term.operation() != 22) {
            return there;
        }
        if (terms.size() == 64 || cost + newCost > 400) {
            return -2;
        }
        cost += newCost;
        terms.add(term);
        return terms.size() - 1;
    }

    int entry(int t, int i, int value) {
        if (t < 0 || t > 1 || i < 0 || i > 7) {
            return -1;
        }
        tables[t][i] = Math.floorMod(value, 256);
        return 0;
    }

    int term(int operation, int a, int b, int c) {
        if (!accepted(operation, a, b, c)) {
            return -1;
        }
        boolean two = operation >= 2 && operation <= 15;
        if (isConstant(a) && (!two || isConstant(b))
                && (operation != 16 || isConstant(b) && isConstant(c))) {
            Term term = newTerm(operation, a, b, c);
            return constantOf(term.width(), evaluate(term, new int[0]));
        }
        if (List.of(2, 3, 4, 5, 7, 13).contains(operation) && a > b) {
            int first = b;
            b = a;
            a = first;
        }
        if (two && a == b) {
            switch (operation) {
                case 2: case 3: return a;
                case 4: case 6: return constantOf(terms.get(a).width(), BigInteger.ZERO);
                case 13: return constantOf(1, BigInteger.ONE);
                case 14: case 15: return constantOf(1, BigInteger.ZERO);
                default: break;
            }
        }
        if (operation == 16 && b == c) {
            return b;
        }
        if (operation == 16 && isConstant(a)) {
            return terms.get(a).value().signum() != 0 ? b : c;
        }
        if (List.of(3, 4, 5).contains(operation) && (isZero(a) || isZero(b))) {
            return isZero(a) ? b : a;
        }
        if (List.of(2, 7).contains(operation) && (isZero(a) || isZero(b))) {
            return constantOf(terms.get(a).width(), BigInteger.ZERO);
        }
        if (List.of(6, 10, 11, 12).contains(operation) && isZero(b)) {
            return a;
        }
        if (operation <= 1 && terms.get(a).operation() == operation) {
            return terms.get(a).a();
        }
        return find(newTerm(operation, a, b, c), costOf(operation, a, b));
    }

    private boolean accepted(int operation, int a, int b, int c) {
        if (operation < 0 || operation > 20 || !isTerm(a)) {
            return false;
        }
        int w = terms.get(a).width();
        if (operation <= 1) {
            return true;
        }
        if (operation <= 15) {
            boolean fits = operation != 7 || w == 1 || w == 8 || w == 16;
            return isTerm(b) && terms.get(b).width() == w && fits
                && (operation != 8 && operation != 9 || w == 8);
        }
        if (operation == 16) {
            return w == 1 && isTerm(b) && isTerm(c) && terms.get(b).width() == terms.get(c).width();
        }
        if (operation == 20) {
            return w == 8 && (b == 0 || b == 1);
        }
        return WIDTHS.contains(b) && (operation == 19 ? b < w : b > w);
    }

    private Term newTerm(int operation, int a, int b, int c) {
        int width = terms.get(a).width();
        if (operation >= 13 && operation <= 15) {
            width = 1;
        } else if (operation == 16) {
            width = terms.get(b).width();
        } else if (operation >= 17 && operation <= 19) {
            width = b;
        }
        return new Term(operation, width, a, operation <= 1 ? -1 : b, operation == 16 ? c : -1, null);
    }

    private int costOf(int operation, int a, int b) {
        int w = terms.get(operation == 16 ? b : a).width();
        switch (operation) {
            case 7: return w * w * 5 / 4 + 1;
            case 8: case 9: return 100;
            case 10: case 11: case 12: return w * 3;
            case 17: case 18: case 19: return 0;
            case 20: return 40;
            default: return w;
        }
    }

    int take(int condition) {
        if (!isTerm(condition) || terms.get(condition).width() != 1) {
            return -1;
        }
        if (path.size() == 16) {
            return -2;
        }
        path.add(condition);
        return path.size();
    }

    int back() {
        if (path.isEmpty()) {
            return -1;
        }
        path.remove(path.size() - 1);
        return path.size();
    }

    int check() {
        return found(path.size(), false) ? 1 : 0;
    }

    int flip(int k) {
        if (k < 0 || k >= path.size()) {
            return -1;
        }
        return found(k, true) ? 1 : 0;
    }

    int search(int limit) {
        int k = Math.min(path.size(), Math.max(0, limit));
        while (k > 0) {
            k--;
            if (flip(k) == 1) {
                return k;
            }
        }
        return -1;
    }

    int model(int v) {
        return model == null || v < 0 || v >= model.length ? -1 : model[v];
    }

    long value(int term) {
        if (model == null || !isTerm(term)) {
            return Long.MIN_VALUE + 1;
        }
        return signed(terms.get(term).width(), evaluate(term, model)).longValueExact();
    }

    int follows() {
        if (model == null) {
            return -1;
        }
        int k = 0;
        while (k < path.size() && evaluate(path.get(k), model).signum() != 0) {
            k++;
        }
        return k;
    }

    int width(int term) {
        return isTerm(term) ? terms.get(term).width() : -1;
    }

    int operation(int term) {
        return isTerm(term) ? terms.get(term).operation() : -1;
    }

    int operand(int term, int i) {
        if (!isTerm(term) || i < 0 || i > 2) {
            return -1;
        }
        Term there = terms.get(term);
        return i == 0 ? there.a() : i == 1 ? there.b() : there.c();
    }

    int count(int what) {
        switch (what) {
            case 0: return terms.size();
            case 1: return cost;
            case 2: return path.size();
            case 3: return variables.size();
            case 4: return feasible;
            case 5: return infeasible;
            default: return -1;
        }
    }

    /** Tries all values in order, variable 0 turning slowest. */
    private boolean found(int holding, boolean turned) {
        int[] tried = new int[variables.size()];
        while (true) {
            if (fits(tried, holding, turned)) {
                model = tried;
                feasible++;
                return true;
            }
            int v = tried.length - 1;
            while (v >= 0 && tried[v] == (1 << variables.get(v).bits()) - 1) {
                tried[v] = 0;
                v--;
            }
            if (v < 0) {
                infeasible++;
                return false;
            }
            tried[v]++;
        }
    }

    private boolean fits(int[] tried, int holding, boolean turned) {
        for (int k = 0; k < holding; k++) {
            if (evaluate(path.get(k), tried).signum() == 0) {
                return false;
            }
        }
        return !turned || evaluate(path.get(holding), tried).signum() == 0;
    }

    private BigInteger evaluate(int number, int[] tried) {
        Term term = terms.get(number);
        if (term.operation() == 21) {
            return term.value();
        }
        if (term.operation() != 22) {
            return evaluate(term, tried);
        }
        for (int v = 0; v < variables.size(); v++) {
            Variable variable = variables.get(v);
            if (variable.term() == number) {
                BigInteger bits = BigInteger.valueOf(v < tried.length ? tried[v] : 0);
                return cut(8, variable.signed() ? signed(variable.bits(), bits) : bits);
            }
        }
        throw new IllegalStateException("a variable without its term");
    }

    private BigInteger evaluate(Term term, int[] tried) {
        int w = terms.get(term.a()).width();
        BigInteger x = evaluate(term.a(), tried);
        switch (term.operation()) {
            case 0: return cut(w, x.not());
            case 1: return cut(w, x.negate());
            case 16: return evaluate(x.signum() != 0 ? term.b() : term.c(), tried);
            case 17: return x;
            case 18: return cut(term.b(), signed(w, x));
            case 19: return cut(term.b(), x);
            case 20: return BigInteger.valueOf(tables[term.b()][x.intValue() % 8]);
            default: return ofTwo(term.operation(), w, x, evaluate(term.b(), tried));
        }
    }

    private static BigInteger ofTwo(int operation, int w, BigInteger x, BigInteger y) {
        boolean far = y.compareTo(BigInteger.valueOf(w)) >= 0;
        int places = far ? w : y.intValue();
        switch (operation) {
            case 2: return x.and(y);
            case 3: return x.or(y);
            case 4: return x.xor(y);
            case 5: return cut(w, x.add(y));
            case 6: return cut(w, x.subtract(y));
            case 7: return cut(w, x.multiply(y));
            case 8: return y.signum() == 0 ? cut(w, BigInteger.valueOf(-1)) : x.divide(y);
            case 9: return y.signum() == 0 ? x : x.mod(y);
            case 10: return cut(w, x.shiftLeft(places));
            case 11: return x.shiftRight(places);
            case 12: return cut(w, signed(w, x).shiftRight(places));
            case 13: return bit(x.equals(y));
            case 14: return bit(x.compareTo(y) < 0);
            case 15: return bit(signed(w, x).compareTo(signed(w, y)) < 0);
            default: throw new IllegalStateException("no operation of two");
        }
    }

    private static BigInteger bit(boolean holds) {
        return holds ? BigInteger.ONE : BigInteger.ZERO;
    }

    private static BigInteger cut(int width, BigInteger value) {
        return value.mod(BigInteger.ONE.shiftLeft(width));
    }

    private static BigInteger signed(int width, BigInteger bits) {
        return bits.testBit(width - 1) ? bits.subtract(BigInteger.ONE.shiftLeft(width)) : bits;
    }

    private boolean isTerm(int term) {
        return term >= 0 && term < terms.size();
    }

    private boolean isConstant(int term) {
        return terms.get(term).operation() == 21;
    }

    private boolean isZero(int term) {
        return isConstant(term) && terms.get(term).value().signum() == 0;
    }
}
