/**
 * A solver for conditions over bit vectors, as a path through a program collects them.
 *
 * <p>All variables together have at most ten bits, so every choice of their values is one number
 * of ten bits, an assignment. Variable 0 has the top bits of it, variable 1 the next ones, and so
 * on: the order of the assignments is then the order in which the document looks for the model,
 * and bits that no variable has yet are 0 in the first assignment of any kind.
 */
public final class PathSolver {
    public static final int REFUSED = -1;
    public static final int FULL = -2;
    public static final int NO = 0;
    public static final int YES = 1;
    public static final long NONE = Long.MIN_VALUE + 1;

    private static final int NOWHERE = -1;

    private final Variables variables;
    private final Tables tables;
    private final Terms terms;
    private final Evaluator evaluator;
    private final Maker maker;
    private final TruthRows rows;
    private final Path path;
    private int modelAssignment;
    private int modelVariables;
    private int feasibleChecks;
    private int otherChecks;

    public PathSolver() {
        variables = new Variables();
        tables = new Tables();
        terms = new Terms();
        evaluator = new Evaluator(terms, variables, tables);
        maker = new Maker(terms, evaluator);
        rows = new TruthRows(terms, variables, evaluator);
        path = new Path(rows);
        modelAssignment = NOWHERE;
        modelVariables = 0;
        feasibleChecks = 0;
        otherChecks = 0;
    }

    public int variable(int bits, boolean signed) {
        if (!variables.admits(bits)) {
            return REFUSED;
        }
        if (terms.isFull()) {
            return FULL;
        }
        return terms.addVariable(variables.add(bits, signed));
    }

    public int constant(int width, long value) {
        if (!Width.isOne(width)) {
            return REFUSED;
        }
        return terms.findOrAddConstant(width, value);
    }

    public int entry(int t, int i, int value) {
        if (!Tables.isTable(t) || !Tables.isPlace(i)) {
            return REFUSED;
        }
        tables.set(t, i, value);
        rows.forgetReadersOf(t);
        return 0;
    }

    public int term(int operation, int a, int b, int c) {
        if (!maker.accepts(operation, a, b, c)) {
            return REFUSED;
        }
        return maker.make(operation, a, b, c);
    }

    public int take(int condition) {
        if (!terms.has(condition) || terms.widthOf(condition) != 1) {
            return REFUSED;
        }
        if (path.isFull()) {
            return FULL;
        }
        return path.push(condition);
    }

    public int back() {
        return path.length() == 0 ? REFUSED : path.pop();
    }

    public int check() {
        return settle(path.firstTaking()) ? YES : NO;
    }

    public int flip(int k) {
        if (k < 0 || k >= path.length()) {
            return REFUSED;
        }
        return settle(path.firstLeavingAt(k)) ? YES : NO;
    }

    public int search(int limit) {
        int bounded = Math.max(0, Math.min(limit, path.length()));
        for (int k = bounded - 1; k >= 0; k--) {
            if (settle(path.firstLeavingAt(k))) {
                return k;
            }
        }
        return NOWHERE;
    }

    public int model(int v) {
        if (modelAssignment == NOWHERE || v < 0 || v >= modelVariables) {
            return REFUSED;
        }
        return variables.bitsAt(v, modelAssignment);
    }

    public long value(int term) {
        if (modelAssignment == NOWHERE || !terms.has(term)) {
            return NONE;
        }
        evaluator.needOnly(term);
        evaluator.evaluateNeeded(modelAssignment);
        return evaluator.resultAt(term);
    }

    public int follows() {
        if (modelAssignment == NOWHERE) {
            return REFUSED;
        }
        int length = path.length();
        for (int k = 0; k < length; k++) {
            if (value(path.conditionAt(k)) == 0) {
                return k;
            }
        }
        return length;
    }

    public int width(int term) {
        return terms.has(term) ? terms.widthOf(term) : REFUSED;
    }

    public int operation(int term) {
        return terms.has(term) ? terms.operationOf(term) : REFUSED;
    }

    public int operand(int term, int i) {
        if (!terms.has(term) || i < 0 || i >= Operation.named(terms.operationOf(term))) {
            return REFUSED;
        }
        return terms.operandOf(term, i);
    }

    public int count(int what) {
        switch (what) {
            case 0: return terms.size();
            case 1: return terms.totalCost();
            case 2: return path.length();
            case 3: return variables.size();
            case 4: return feasibleChecks;
            case 5: return otherChecks;
            default: return REFUSED;
        }
    }

    private boolean settle(int assignment) {
        if (assignment == NOWHERE) {
            otherChecks++;
            return false;
        }
        feasibleChecks++;
        modelAssignment = assignment;
        modelVariables = variables.size();
        return true;
    }

    /** Widths, and the two readings of a value's bits. */
    private static final class Width {
        static boolean isOne(int width) {
            return width == 1 || width == 8 || width == 16 || width == 32 || width == 64;
        }

        static long readSigned(int bits, long value) {
            int above = 64 - bits;
            return value << above >> above;
        }

        static long readPlain(int bits, long value) {
            int above = 64 - bits;
            return value << above >>> above;
        }
    }

    /** What each operation is. Values go in and out read with their signs. */
    private static final class Operation {
        static final int NOT = 0;
        static final int NEG = 1;
        static final int AND = 2;
        static final int OR = 3;
        static final int XOR = 4;
        static final int ADD = 5;
        static final int SUB = 6;
        static final int MUL = 7;
        static final int QUOTIENT = 8;
        static final int REST = 9;
        static final int LEFT = 10;
        static final int RIGHT = 11;
        static final int SIGNED_RIGHT = 12;
        static final int SAME = 13;
        static final int LESS = 14;
        static final int SIGNED_LESS = 15;
        static final int CHOICE = 16;
        static final int WIDEN = 17;
        static final int SIGN_WIDEN = 18;
        static final int CUT = 19;
        static final int LOOK_UP = 20;
        static final int CONSTANT = 21;
        static final int VARIABLE = 22;

        /** How many of a, b, c the operation names, a width or table in place of b counted. */
        static int named(int operation) {
            if (operation > LOOK_UP) {
                return 0;
            }
            if (operation <= NEG) {
                return 1;
            }
            return operation == CHOICE ? 3 : 2;
        }

        /** How many of a, b, c are terms. */
        static int namedTerms(int operation) {
            return operation >= WIDEN && operation <= LOOK_UP ? 1 : named(operation);
        }

        static boolean changesPlaces(int operation) {
            return (operation >= AND && operation <= ADD) || operation == MUL || operation == SAME;
        }

        /** Whether an operation of two terms of the same width is there for that width. */
        static boolean isThereFor(int operation, int width) {
            if (operation == MUL) {
                return width <= 16;
            }
            return (operation != QUOTIENT && operation != REST) || width == 8;
        }

        static int costFor(int operation, int width) {
            switch (operation) {
                case MUL: return width * width * 5 / 4 + 1;
                case QUOTIENT: case REST: return 100;
                case LEFT: case RIGHT: case SIGNED_RIGHT: return width * 3;
                case WIDEN: case SIGN_WIDEN: case CUT: return 0;
                case LOOK_UP: return 40;
                default: return width;
            }
        }

        static long ofOne(int operation, int width, long x) {
            return operation == NOT ? ~x : Width.readSigned(width, -x);
        }

        static long ofTwo(int operation, int width, long x, long y) {
            switch (operation) {
                case AND: return x & y;
                case OR: return x | y;
                case XOR: return x ^ y;
                case ADD: return Width.readSigned(width, x + y);
                case SUB: return Width.readSigned(width, x - y);
                case MUL: return Width.readSigned(width, x * y);
                case SAME: return bit(x == y);
                // Turning the sign bits makes Java's signed order the one of numbers not below 0.
                case LESS: return bit((x ^ Long.MIN_VALUE) < (y ^ Long.MIN_VALUE));
                default: return bit(x < y);
            }
        }

        static long resized(int operation, int width, int newWidth, long x) {
            switch (operation) {
                case WIDEN: return Width.readPlain(width, x);
                case CUT: return Width.readSigned(newWidth, x);
                default: return x;
            }
        }

        static long divided(int operation, int width, long x, long y) {
            long dividend = Width.readPlain(width, x);
            long divisor = Width.readPlain(width, y);
            if (divisor == 0) {
                return operation == QUOTIENT ? -1 : x;
            }
            long result = operation == QUOTIENT ? dividend / divisor : dividend % divisor;
            return Width.readSigned(width, result);
        }

        static long moved(int operation, int width, long x, long y) {
            // Below 0 stands for 2^(width - 1) places or more, and these are width or more.
            if (y < 0 || y >= width) {
                return operation == SIGNED_RIGHT && x < 0 ? -1 : 0;
            }
            int distance = (int) y;
            switch (operation) {
                case LEFT: return Width.readSigned(width, x << distance);
                case RIGHT: return Width.readSigned(width, Width.readPlain(width, x) >>> distance);
                default: return x >> distance;
            }
        }

        private static long bit(boolean holds) {
            return holds ? -1 : 0;
        }
    }

    /** The variables, each with its place in an assignment. */
    private static final class Variables {
        static final int MOST = 4;
        static final int MOST_BITS = 8;
        static final int MOST_BITS_TOGETHER = 10;

        private final int[] bits;
        private final int[] lowest;
        private final boolean[] signed;
        private int size;
        private int bitsTogether;

        Variables() {
            bits = new int[MOST];
            lowest = new int[MOST];
            signed = new boolean[MOST];
            size = 0;
            bitsTogether = 0;
        }

        int size() {
            return size;
        }

        boolean admits(int newBits) {
            return newBits >= 1 && newBits <= MOST_BITS && size < MOST
                && bitsTogether + newBits <= MOST_BITS_TOGETHER;
        }

        int add(int newBits, boolean isSigned) {
            bitsTogether += newBits;
            bits[size] = newBits;
            lowest[size] = freeBits();
            signed[size] = isSigned;
            return size++;
        }

        /** How many low bits of an assignment no variable has. */
        int freeBits() {
            return MOST_BITS_TOGETHER - bitsTogether;
        }

        int bitsAt(int v, int assignment) {
            return (assignment >> lowest[v]) & ((1 << bits[v]) - 1);
        }

        long readAt(int v, int assignment) {
            return Width.readSigned(signed[v] ? bits[v] : 8, bitsAt(v, assignment));
        }
    }

    /** Tables 0 and 1. */
    private static final class Tables {
        private static final int TABLES = 2;
        private static final int PLACES = 8;

        private final long[] entries;

        Tables() {
            entries = new long[TABLES * PLACES];
        }

        static boolean isTable(int t) {
            return t >= 0 && t < TABLES;
        }

        static boolean isPlace(int i) {
            return i >= 0 && i < PLACES;
        }

        void set(int t, int i, int value) {
            entries[t * PLACES + i] = Width.readSigned(8, value);
        }

        long lookUp(int t, long x) {
            return entries[t * PLACES + (int) (x & (PLACES - 1))];
        }
    }

    /** The terms that are there. Operands have lower numbers than the terms made of them. */
    private static final class Terms {
        static final int MOST = 64;
        static final int MOST_COST = 400;
        static final int NOT_THERE = -3;

        private final int[] operations;
        private final int[] widths;
        private final int[] operands;
        private final int[] tablesRead;
        private final long[] constants;
        private int size;
        private int totalCost;

        Terms() {
            operations = new int[MOST];
            widths = new int[MOST];
            operands = new int[MOST * 3];
            tablesRead = new int[MOST];
            constants = new long[MOST];
            size = 0;
            totalCost = 0;
        }

        int size() {
            return size;
        }

        int totalCost() {
            return totalCost;
        }

        boolean isFull() {
            return size >= MOST;
        }

        boolean has(int term) {
            return term >= 0 && term < size;
        }

        int widthOf(int term) {
            return widths[term];
        }

        int operationOf(int term) {
            return operations[term];
        }

        int operandOf(int term, int i) {
            return operands[term * 3 + i];
        }

        boolean isConstant(int term) {
            return operations[term] == Operation.CONSTANT;
        }

        boolean isZero(int term) {
            return isConstant(term) && constants[term] == 0;
        }

        /** The values of the constants, each at the place of its term. */
        long[] constants() {
            return constants;
        }

        /** Whether the term, or one that it is made of, looks up in table t. */
        boolean readsTable(int term, int t) {
            return ((tablesRead[term] >> t) & 1) == 1;
        }

        int addVariable(int v) {
            int term = addPlain(Operation.VARIABLE, 8);
            operands[term * 3] = v;
            return term;
        }

        int findOrAddConstant(int width, long value) {
            long read = Width.readSigned(width, value);
            for (int term = 0; term < size; term++) {
                if (isConstant(term) && widths[term] == width && constants[term] == read) {
                    return term;
                }
            }
            if (isFull()) {
                return FULL;
            }
            int term = addPlain(Operation.CONSTANT, width);
            constants[term] = read;
            return term;
        }

        /** The term of the operation with just these operands, unnamed ones 0. */
        int find(int operation, int a, int b, int c) {
            for (int term = 0; term < size; term++) {
                if (operations[term] == operation && operandOf(term, 0) == a
                        && operandOf(term, 1) == b && operandOf(term, 2) == c) {
                    return term;
                }
            }
            return NOT_THERE;
        }

        int add(int operation, int a, int b, int c) {
            int width = operation == Operation.CHOICE ? widths[b] : widths[a];
            int cost = Operation.costFor(operation, width);
            if (isFull() || totalCost + cost > MOST_COST) {
                return FULL;
            }
            int term = addPlain(operation, widthOfResult(operation, a, b));
            operands[term * 3] = a;
            operands[term * 3 + 1] = b;
            operands[term * 3 + 2] = c;
            totalCost += cost;
            noteTablesRead(term);
            return term;
        }

        int widthOfResult(int operation, int a, int b) {
            switch (operation) {
                case Operation.SAME: case Operation.LESS: case Operation.SIGNED_LESS: return 1;
                case Operation.CHOICE: return widths[b];
                case Operation.WIDEN: case Operation.SIGN_WIDEN: case Operation.CUT: return b;
                default: return widths[a];
            }
        }

        private int addPlain(int operation, int width) {
            operations[size] = operation;
            widths[size] = width;
            return size++;
        }

        private void noteTablesRead(int term) {
            int read = operations[term] == Operation.LOOK_UP ? 1 << operandOf(term, 1) : 0;
            int named = Operation.namedTerms(operations[term]);
            for (int i = 0; i < named; i++) {
                read |= tablesRead[operandOf(term, i)];
            }
            tablesRead[term] = read;
        }
    }

    /** The values of terms for one assignment at a time. */
    private static final class Evaluator {
        private final Terms terms;
        private final Variables variables;
        private final Tables tables;
        private final long[] results;
        private final boolean[] needed;

        Evaluator(Terms terms, Variables variables, Tables tables) {
            this.terms = terms;
            this.variables = variables;
            this.tables = tables;
            results = new long[Terms.MOST];
            needed = new boolean[Terms.MOST];
        }

        long resultAt(int term) {
            return results[term];
        }

        /** Needs the term, and those that it is made of. */
        void needOnly(int term) {
            needNothing();
            need(term);
            needOperands();
        }

        void needNothing() {
            for (int term = 0; term < Terms.MOST; term++) {
                needed[term] = false;
            }
        }

        void need(int term) {
            needed[term] = true;
        }

        /** Needs also what the needed terms are made of. */
        void needOperands() {
            for (int term = terms.size() - 1; term >= 0; term--) {
                int named = needed[term] ? Operation.namedTerms(terms.operationOf(term)) : 0;
                for (int i = 0; i < named; i++) {
                    needed[terms.operandOf(term, i)] = true;
                }
            }
        }

        void evaluateNeeded(int assignment) {
            int size = terms.size();
            for (int term = 0; term < size; term++) {
                if (!needed[term]) {
                    continue;
                }
                int operation = terms.operationOf(term);
                int a = terms.operandOf(term, 0);
                if (operation == Operation.CONSTANT) {
                    results[term] = terms.constants()[term];
                } else if (operation == Operation.VARIABLE) {
                    results[term] = variables.readAt(a, assignment);
                } else {
                    int b = terms.operandOf(term, 1);
                    results[term] = apply(operation, a, b, terms.operandOf(term, 2), results);
                }
            }
        }

        /** The result of an operation on operands that are all constants. */
        long applyToConstants(int operation, int a, int b, int c) {
            return apply(operation, a, b, c, terms.constants());
        }

        private long apply(int operation, int a, int b, int c, long[] known) {
            int width = terms.widthOf(a);
            switch (operation) {
                case Operation.NOT: case Operation.NEG:
                    return Operation.ofOne(operation, width, known[a]);
                case Operation.CHOICE:
                    return known[a] != 0 ? known[b] : known[c];
                case Operation.WIDEN: case Operation.SIGN_WIDEN: case Operation.CUT:
                    return Operation.resized(operation, width, b, known[a]);
                case Operation.LOOK_UP:
                    return tables.lookUp(b, known[a]);
                case Operation.QUOTIENT: case Operation.REST:
                    return Operation.divided(operation, width, known[a], known[b]);
                case Operation.LEFT: case Operation.RIGHT: case Operation.SIGNED_RIGHT:
                    return Operation.moved(operation, width, known[a], known[b]);
                default:
                    return Operation.ofTwo(operation, width, known[a], known[b]);
            }
        }
    }

    /** Makes the term of an operation by the document's seven steps. */
    private static final class Maker {
        private static final int UNFIT = Terms.NOT_THERE;

        private final Terms terms;
        private final Evaluator evaluator;

        Maker(Terms terms, Evaluator evaluator) {
            this.terms = terms;
            this.evaluator = evaluator;
        }

        boolean accepts(int operation, int a, int b, int c) {
            if (operation < Operation.NOT || operation > Operation.LOOK_UP || !terms.has(a)) {
                return false;
            }
            int width = terms.widthOf(a);
            switch (operation) {
                case Operation.NOT: case Operation.NEG:
                    return true;
                case Operation.CHOICE:
                    return width == 1 && areAlike(b, c);
                case Operation.WIDEN: case Operation.SIGN_WIDEN:
                    return Width.isOne(b) && b > width;
                case Operation.CUT:
                    return Width.isOne(b) && b < width;
                case Operation.LOOK_UP:
                    return width == 8 && Tables.isTable(b);
                default:
                    return areAlike(a, b) && Operation.isThereFor(operation, width);
            }
        }

        int make(int operation, int a, int b, int c) {
            // Unnamed operands may be any int: as 0 they can't keep equal terms apart.
            int named = Operation.named(operation);
            int second = named > 1 ? b : 0;
            int third = named > 2 ? c : 0;
            if (areConstants(Operation.namedTerms(operation), a, second, third)) {
                return terms.findOrAddConstant(terms.widthOfResult(operation, a, second),
                    evaluator.applyToConstants(operation, a, second, third));
            }
            if (Operation.changesPlaces(operation) && a > second) {
                return makeInPlace(operation, second, a, third);
            }
            return makeInPlace(operation, a, second, third);
        }

        private int makeInPlace(int operation, int a, int b, int c) {
            int found = ofSameOperands(operation, a, b, c);
            if (found == UNFIT) {
                found = ofZero(operation, a, b);
            }
            if (found == UNFIT) {
                found = ofUndoing(operation, a);
            }
            if (found == UNFIT) {
                found = terms.find(operation, a, b, c);
            }
            return found == UNFIT ? terms.add(operation, a, b, c) : found;
        }

        private boolean areAlike(int one, int other) {
            return terms.has(one) && terms.has(other)
                && terms.widthOf(one) == terms.widthOf(other);
        }

        private boolean areConstants(int named, int a, int b, int c) {
            return terms.isConstant(a) && (named < 2 || terms.isConstant(b))
                && (named < 3 || terms.isConstant(c));
        }

        private int ofSameOperands(int operation, int a, int b, int c) {
            if (operation == Operation.CHOICE) {
                return ofSettledChoice(a, b, c);
            }
            // Of 17 to 20, b is no term: they fall to the default below.
            if (a != b) {
                return UNFIT;
            }
            switch (operation) {
                case Operation.AND: case Operation.OR:
                    return a;
                case Operation.XOR: case Operation.SUB:
                    return terms.findOrAddConstant(terms.widthOf(a), 0);
                case Operation.SAME:
                    return terms.findOrAddConstant(1, 1);
                case Operation.LESS: case Operation.SIGNED_LESS:
                    return terms.findOrAddConstant(1, 0);
                default:
                    return UNFIT;
            }
        }

        private int ofSettledChoice(int a, int b, int c) {
            if (b == c) {
                return b;
            }
            if (!terms.isConstant(a)) {
                return UNFIT;
            }
            return terms.isZero(a) ? c : b;
        }

        private int ofZero(int operation, int a, int b) {
            switch (operation) {
                case Operation.OR: case Operation.XOR: case Operation.ADD:
                    if (terms.isZero(a)) {
                        return b;
                    }
                    return terms.isZero(b) ? a : UNFIT;
                case Operation.AND: case Operation.MUL:
                    if (terms.isZero(a)) {
                        return a;
                    }
                    return terms.isZero(b) ? b : UNFIT;
                case Operation.SUB: case Operation.LEFT:
                case Operation.RIGHT: case Operation.SIGNED_RIGHT:
                    return terms.isZero(b) ? a : UNFIT;
                default:
                    return UNFIT;
            }
        }

        private int ofUndoing(int operation, int a) {
            boolean undoes = operation <= Operation.NEG && terms.operationOf(a) == operation;
            return undoes ? terms.operandOf(a, 0) : UNFIT;
        }
    }

    /**
     * For each condition that was asked about, a row with one bit for each assignment: whether the
     * condition holds there. A row stays known until a table that it depends on is changed; a new
     * variable changes none, as rows are also right for bits that no variable has yet.
     */
    private static final class TruthRows {
        static final int WORDS = (1 << Variables.MOST_BITS_TOGETHER) / 64;

        private final Terms terms;
        private final Variables variables;
        private final Evaluator evaluator;
        private final long[] rows;
        private final boolean[] known;
        private final int[] asked;
        private int askedSize;

        TruthRows(Terms terms, Variables variables, Evaluator evaluator) {
            this.terms = terms;
            this.variables = variables;
            this.evaluator = evaluator;
            rows = new long[Terms.MOST * WORDS];
            known = new boolean[Terms.MOST];
            asked = new int[Terms.MOST];
            askedSize = 0;
        }

        long wordOf(int condition, int word) {
            return rows[condition * WORDS + word];
        }

        void forgetReadersOf(int t) {
            int size = terms.size();
            for (int term = 0; term < size; term++) {
                if (terms.readsTable(term, t)) {
                    known[term] = false;
                }
            }
        }

        /** Makes the rows of the first so many conditions known. */
        void learn(int[] conditions, int length) {
            ask(conditions, length);
            if (askedSize == 0) {
                return;
            }
            evaluator.needOperands();
            int free = variables.freeBits();
            int different = 1 << (Variables.MOST_BITS_TOGETHER - free);
            for (int n = 0; n < different; n++) {
                evaluator.evaluateNeeded(n << free);
                noteAsked(n << free, 1 << free);
            }
        }

        private void ask(int[] conditions, int length) {
            askedSize = 0;
            evaluator.needNothing();
            for (int i = 0; i < length; i++) {
                int condition = conditions[i];
                if (!known[condition]) {
                    // Known from here on, so that a condition that is there twice is asked once.
                    known[condition] = true;
                    clearRow(condition);
                    evaluator.need(condition);
                    asked[askedSize] = condition;
                    askedSize++;
                }
            }
        }

        private void clearRow(int condition) {
            for (int word = 0; word < WORDS; word++) {
                rows[condition * WORDS + word] = 0;
            }
        }

        /** Notes for a run of assignments, alike but for free bits, where the asked ones hold. */
        private void noteAsked(int assignment, int run) {
            for (int i = 0; i < askedSize; i++) {
                if (evaluator.resultAt(asked[i]) != 0) {
                    setBits(asked[i], assignment, run);
                }
            }
        }

        private void setBits(int condition, int from, int run) {
            for (int i = from; i < from + run; i++) {
                rows[condition * WORDS + i / 64] |= 1L << (i % 64);
            }
        }
    }

    /** The conditions of the path, and the first assignments that take it or leave it. */
    private static final class Path {
        private static final int MOST = 16;

        private final TruthRows rows;
        private final int[] conditions;
        private int length;

        Path(TruthRows rows) {
            this.rows = rows;
            conditions = new int[MOST];
            length = 0;
        }

        int length() {
            return length;
        }

        boolean isFull() {
            return length >= MOST;
        }

        int conditionAt(int k) {
            return conditions[k];
        }

        int push(int condition) {
            conditions[length] = condition;
            length++;
            return length;
        }

        int pop() {
            length--;
            return length;
        }

        /** The first assignment with which all conditions hold, or NOWHERE. */
        int firstTaking() {
            rows.learn(conditions, length);
            for (int word = 0; word < TruthRows.WORDS; word++) {
                long live = holdingBefore(length, word);
                if (live != 0) {
                    return word * 64 + lowestBit(live);
                }
            }
            return NOWHERE;
        }

        /** The first assignment with which those before k hold and the one at k does not. */
        int firstLeavingAt(int k) {
            rows.learn(conditions, k + 1);
            for (int word = 0; word < TruthRows.WORDS; word++) {
                long live = holdingBefore(k, word) & ~rows.wordOf(conditions[k], word);
                if (live != 0) {
                    return word * 64 + lowestBit(live);
                }
            }
            return NOWHERE;
        }

        private long holdingBefore(int k, int word) {
            long live = -1;
            for (int i = 0; i < k; i++) {
                live &= rows.wordOf(conditions[i], word);
            }
            return live;
        }

        private static int lowestBit(long word) {
            int bit = 0;
            while (bit < 63 && ((word >> bit) & 1) == 0) {
                bit++;
            }
            return bit;
        }
    }
}
