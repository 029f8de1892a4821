import java.math.BigInteger;

/** Section Terms: values and operations 0 to 20 at their boundaries, for every width. */
public final class OperationBoundaryTest {
    private static final int[] WIDTHS = {1, 8, 16, 32, 64};
    private static final Due DUE = new Due();
    private static final OperationCases CASES = new OperationCases(DUE);

    public static void main(String[] args) {
        for (int w : WIDTHS) {
            readWithSign(w);
            eachBit(w);
            wrapAround(w);
            moves(w);
            comparisons(w);
            newWidths(w);
            choices(w);
        }
        products();
        widthsOfProducts();
        quotients();
        quotientsByZero();
        widthsOfQuotients();
        lookUps();
        tablesAndWidthsOfLookUps();
        newWidthsThatAreNone();
        DUE.end();
    }

    private static long greatest(int w) {
        return least(w) == Long.MIN_VALUE ? Long.MAX_VALUE : -least(w) - 1;
    }

    private static long least(int w) {
        return -1L << (w - 1);
    }

    /** The value of the bits of a number, read with its sign. */
    private static long read(int w, BigInteger bits) {
        BigInteger all = BigInteger.ONE.shiftLeft(w);
        BigInteger low = bits.mod(all);
        return (low.testBit(w - 1) ? low.subtract(all) : low).longValueExact();
    }

    private static BigInteger plain(int w, long value) {
        return BigInteger.valueOf(value).mod(BigInteger.ONE.shiftLeft(w));
    }

    private static void readWithSign(int w) {
        DUE.by("A VALUE as a long is read with its sign (the top bit counting as negative; "
            + "a bit of WIDTH 1 is 0 or -1).");
        PathSolver x = new PathSolver();
        x.check();
        long[] values = {0, 1, 2, greatest(w), greatest(w) + 1, least(w), least(w) - 1, -1, -2,
            Long.MIN_VALUE, Long.MAX_VALUE};
        for (long value : values) {
            DUE.is("value of constant(" + w + ", " + value + ")", x.value(x.constant(w, value)),
                read(w, BigInteger.valueOf(value)));
        }
        DUE.is("the greatest of width " + w, x.value(x.constant(w, greatest(w))), greatest(w));
        DUE.is("one more", x.value(x.constant(w, greatest(w) + 1)), least(w));
        DUE.is("the least of width " + w, x.value(x.constant(w, least(w))), least(w));
        DUE.is("one less", x.value(x.constant(w, least(w) - 1)), greatest(w));
        DUE.is("all ones of width " + w, x.value(x.constant(w, -1)), -1);
    }

    /** Rows of bits in which all four pairs of bits meet, at the low end, at the top and between. */
    private static void eachBit(int w) {
        DUE.by("0 NOT a (each bit). .. 2 AND 3 OR 4 XOR (each bit).");
        long[] rows = {0, -1, 0x5555555555555555L, 0x3333333333333333L, 0x0f0f0f0f0f0f0f0fL,
            0x00ff00ff00ff00ffL, 0x123456789abcdef0L, 1, 1L << (w - 1), (1L << (w - 1)) - 1};
        for (long row : rows) {
            long a = read(w, BigInteger.valueOf(row));
            CASES.ofOne(0, w, a, 0, read(w, BigInteger.valueOf(~a)));
            for (long other : rows) {
                long b = read(w, BigInteger.valueOf(other));
                CASES.ofTwo(2, w, a, b, read(w, BigInteger.valueOf(a & b)));
                CASES.ofTwo(3, w, a, b, read(w, BigInteger.valueOf(a | b)));
                CASES.ofTwo(4, w, a, b, read(w, BigInteger.valueOf(a ^ b)));
            }
        }
    }

    /** NEG, ADD and SUB at both ends of the width, on this side of them and past them. */
    private static void wrapAround(int w) {
        DUE.by("results taken modulo 2^w, of WIDTH w, if nothing else is said");
        long one = w == 1 ? -1 : 1;
        long[] edges = {0, one, -1, greatest(w), least(w), least(w) / 2, -(least(w) / 2)};
        for (long value : edges) {
            BigInteger a = BigInteger.valueOf(read(w, BigInteger.valueOf(value)));
            CASES.ofOne(0, w, a.longValue(), 0, read(w, a.not()));
            CASES.ofOne(1, w, a.longValue(), 0, read(w, a.negate()));
            for (long other : edges) {
                BigInteger b = BigInteger.valueOf(read(w, BigInteger.valueOf(other)));
                CASES.ofTwo(5, w, a.longValue(), b.longValue(), read(w, a.add(b)));
                CASES.ofTwo(6, w, a.longValue(), b.longValue(), read(w, a.subtract(b)));
            }
        }
        CASES.ofTwo(5, w, -1, one, 0);
        CASES.ofTwo(6, w, 0, one, -1);
        CASES.ofTwo(5, w, least(w), least(w), 0);
        CASES.ofOne(1, w, least(w), 0, least(w));
    }

    private static void products() {
        DUE.by("7 MUL (w 1, 8 or 16)");
        long[][] rows = {
            {1, 0, 0, 0}, {1, 0, -1, 0}, {1, -1, -1, -1},
            {8, 0, 0, 0}, {8, 7, 0, 0}, {8, -1, 0, 0}, {16, 0, 0, 0}, {16, 7, 0, 0}, {16, -1, 0, 0},
            {8, 15, 17, -1}, {8, 16, 16, 0}, {8, 1, 127, 127}, {8, 2, 63, 126}, {8, 2, 64, -128},
            {8, 2, -128, 0}, {8, -1, -1, 1}, {8, -128, -128, 0}, {8, -128, -1, -128},
            {8, 127, 127, 1},
            {16, 255, 257, -1}, {16, 256, 256, 0}, {16, 181, 181, 32761}, {16, 182, 182, -32412},
            {16, 2, -32768, 0}, {16, -1, -1, 1}, {16, -32768, -32768, 0}, {16, -32768, -1, -32768},
            {16, 32767, 32767, 1}};
        for (long[] row : rows) {
            CASES.ofTwo(7, row[0], row[1], row[2], row[3]);
            CASES.ofTwo(7, row[0], row[2], row[1], row[3]);
        }
    }

    private static void widthsOfProducts() {
        DUE.by("7 MUL (w 1, 8 or 16)");
        for (int w : WIDTHS) {
            Situation now = ofWidth(w);
            if (w <= 16) {
                now.gives(DUE, "term(7, 2, 3, 0)", 4, x -> x.term(7, 2, 3, 0));
            } else {
                now.unchanged(DUE, "term(7, 2, 3, 0)", -1, x -> x.term(7, 2, 3, 0));
            }
        }
    }

    /** Terms 2 and 3 are of that width. */
    private static Situation ofWidth(int w) {
        return new Situation("of width " + w, x -> {
            x.variable(5, false);
            x.variable(5, true);
            for (int v = 0; v < 2; v++) {
                if (w == 8) {
                    x.term(0, v, 0, 0);
                } else {
                    x.term(w == 1 ? 19 : 17, v, w, 0);
                }
            }
        });
    }

    private static void quotients() {
        DUE.by("8 QUOTIENT 9 REST (w 8; of the bits read as 0 .. 255");
        int[] edges = {1, 2, 126, 127, 128, 129, 254, 255};
        int[] dividends = {0, 1, 2, 126, 127, 128, 129, 254, 255};
        for (int a : dividends) {
            for (int b : edges) {
                CASES.ofTwo(8, 8, (byte) a, (byte) b, (byte) (a / b));
                CASES.ofTwo(9, 8, (byte) a, (byte) b, (byte) (a % b));
            }
        }
    }

    private static void quotientsByZero() {
        DUE.by("b is 0: QUOTIENT all ones, REST a");
        int[] edges = {0, 1, 127, 128, 255};
        for (int a : edges) {
            CASES.ofTwo(8, 8, (byte) a, 0, -1);
            CASES.ofTwo(9, 8, (byte) a, 0, (byte) a);
        }
        PathSolver x = new PathSolver();
        int v = x.variable(8, false);
        int zero = x.constant(8, 0);
        DUE.is("by the constant 0 it is a term of 8", x.operation(x.term(8, v, zero, 0)), 8);
        DUE.is("by the constant 0 it is a term of 9", x.operation(x.term(9, v, zero, 0)), 9);
        x.take(x.term(13, v, x.constant(8, 200), 0));
        x.check();
        DUE.is("QUOTIENT by 0", x.value(x.term(8, v, zero, 0)), -1);
        DUE.is("REST by 0", x.value(x.term(9, v, zero, 0)), -56);
    }

    private static void widthsOfQuotients() {
        DUE.by("8 QUOTIENT 9 REST (w 8");
        for (int w : WIDTHS) {
            Situation now = ofWidth(w);
            for (int operation = 8; operation <= 9; operation++) {
                int asked = operation;
                String text = "term(" + operation + ", 2, 3, 0)";
                if (w == 8) {
                    now.gives(DUE, text, 4, x -> x.term(asked, 2, 3, 0));
                } else {
                    now.unchanged(DUE, text, -1, x -> x.term(asked, 2, 3, 0));
                }
            }
        }
    }

    /** Places of 0, of w - 1, of w, of more, and such as would be below 0 or small if cut. */
    private static void moves(int w) {
        DUE.by("a moved by the number b of places (b's bits read as a number not below 0); "
            + "for b of w or more 0, for 12 all bits like a's top one");
        long[] values = {0, w == 1 ? -1 : 1, -1, greatest(w), least(w), w == 1 ? 0 : -2};
        long[] places = {0, 1, 2, w - 1, w, w + 1, 31, 32, 33, 63, 64, 65, 127, 128, 255, 256, 257,
            65536, 65537, 1L << 31, 1L << 32, (1L << 32) + 1, Long.MAX_VALUE};
        for (long value : values) {
            for (long place : places) {
                if (place <= greatest(w)) {
                    move(w, value, place);
                }
            }
            move(w, value, least(w));
            move(w, value, -1);
        }
    }

    private static void move(int w, long value, long b) {
        BigInteger places = plain(w, b);
        boolean gone = places.compareTo(BigInteger.valueOf(w)) >= 0;
        int count = gone ? w : places.intValueExact();
        CASES.ofTwo(10, w, value, b, read(w, plain(w, value).shiftLeft(count)));
        CASES.ofTwo(11, w, value, b, read(w, plain(w, value).shiftRight(count)));
        CASES.ofTwo(12, w, value, b, read(w, BigInteger.valueOf(value).shiftRight(count)));
    }

    private static void comparisons(int w) {
        DUE.by("13 SAME 14 LESS (read as not below 0) 15 SIGNED LESS: of WIDTH 1");
        long[] values = {0, w == 1 ? -1 : 1, -1, greatest(w), least(w), w == 1 ? 0 : -2};
        for (long a : values) {
            for (long b : values) {
                CASES.ofTwo(13, w, a, b, a == b ? -1 : 0);
                CASES.ofTwo(14, w, a, b, plain(w, a).compareTo(plain(w, b)) < 0 ? -1 : 0);
                CASES.ofTwo(15, w, a, b, a < b ? -1 : 0);
            }
        }
    }

    private static void newWidths(int w) {
        DUE.by("a greater one with zeros, a greater one with copies of the top bit, "
            + "a lesser one by the low bits");
        long[] values = {0, w == 1 ? -1 : 1, -1, greatest(w), least(w)};
        for (int to : WIDTHS) {
            for (long value : values) {
                if (to > w) {
                    CASES.ofOne(17, w, value, to, read(to, plain(w, value)));
                    CASES.ofOne(18, w, value, to, value);
                } else if (to < w) {
                    CASES.ofOne(19, w, value, to, read(to, BigInteger.valueOf(value)));
                }
            }
            if (to < w) {
                // The bit above the low ones does not count, the top one of them does.
                CASES.ofOne(19, w, 1L << to, to, 0);
                CASES.ofOne(19, w, 1L << (to - 1), to, least(to));
            }
        }
    }

    private static void newWidthsThatAreNone() {
        DUE.by("17 WIDEN 18 SIGN WIDEN 19 CUT a to the WIDTH given in place of b: a greater one .. "
            + "a lesser one");
        for (int w : WIDTHS) {
            Situation now = ofWidth(w);
            for (int to = -1; to <= 66; to++) {
                boolean width = to == 1 || to == 8 || to == 16 || to == 32 || to == 64;
                for (int operation = 17; operation <= 19; operation++) {
                    int b = to;
                    int asked = operation;
                    String text = "term(" + operation + ", 2, " + to + ", 0)";
                    if (width && (operation == 19 ? to < w : to > w)) {
                        DUE.is("width of " + text + now.name, widthOf(now, asked, b), to);
                    } else {
                        now.unchanged(DUE, text, -1, x -> x.term(asked, 2, b, 0));
                    }
                }
            }
        }
    }

    private static int widthOf(Situation now, int operation, int b) {
        PathSolver x = now.make();
        return x.width(x.term(operation, 2, b, 0));
    }

    private static void choices(int w) {
        DUE.by("16 CHOICE: a of WIDTH 1, b, c of the same WIDTH w: b if a's bit is 1, else c");
        long[] values = {0, -1, greatest(w), least(w)};
        for (long b : values) {
            for (long c : values) {
                PathSolver x = new PathSolver();
                int bit = x.term(19, x.variable(1, false), 1, 0);
                int choice = x.term(16, bit, x.constant(w, b), x.constant(w, c));
                x.take(bit);
                x.check();
                DUE.is("value with bit 1", x.value(choice), b);
                x.flip(0);
                DUE.is("value with bit 0", x.value(choice), c);
                DUE.is("width of the choice", x.width(choice), w);
            }
        }
    }

    private static void lookUps() {
        DUE.by("20 LOOK UP in TABLE b (0, 1) the entry whose number is the low three bits of a");
        int[] places = {0, 1, 6, 7, 8, 9, 15, 16, 63, 64, 127, 128, 129, 247, 248, 254, 255};
        for (int place : places) {
            CASES.ofOne(20, 8, (byte) place, 0, (byte) (100 + place % 8));
            CASES.ofOne(20, 8, (byte) place, 1, (byte) (200 + place % 8));
        }
    }

    private static void tablesAndWidthsOfLookUps() {
        DUE.by("20 LOOK UP in TABLE b (0, 1) .. of a (w 8): WIDTH 8");
        for (int w : WIDTHS) {
            Situation now = ofWidth(w);
            for (int table = -1; table <= 2; table++) {
                int b = table;
                String text = "term(20, 2, " + table + ", 0)";
                if (w == 8 && (table == 0 || table == 1)) {
                    now.gives(DUE, text, 4, x -> x.term(20, 2, b, 0));
                    now.gives(DUE, "width of " + text, 8, x -> x.width(x.term(20, 2, b, 0)));
                } else {
                    now.unchanged(DUE, text, -1, x -> x.term(20, 2, b, 0));
                }
            }
        }
    }
}
