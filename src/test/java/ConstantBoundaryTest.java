/** Promise 3, sentence by sentence: the last number that is allowed, and the first that is not. */
public final class ConstantBoundaryTest {
    private static final int MIN = Integer.MIN_VALUE;
    private static final int MAX = Integer.MAX_VALUE;
    private static final Due DUE = new Due();

    public static void main(String[] args) {
        widthsOfConstants();
        lowBitsOfConstants();
        constantsAndSixtyFourTerms();
        DUE.end();
    }

    private static void widthsOfConstants() {
        DUE.by("The TERM of the constant of WIDTH 1, 8, 16, 32 or 64");
        Situation some = new Situation("behind a variable", x -> x.variable(3, false));
        for (int width = -2; width <= 130; width++) {
            int given = width;
            boolean is = width == 1 || width == 8 || width == 16 || width == 32 || width == 64;
            String text = "constant(" + width + ", 5)";
            if (is) {
                some.gives(DUE, text, 1, x -> x.constant(given, 5));
                some.gives(DUE, "width of " + text, width, x -> x.width(x.constant(given, 5)));
            } else {
                some.unchanged(DUE, text, -1, x -> x.constant(given, 5));
            }
        }
        int[] far = {MIN, MAX, MIN + 8, 257, 264, 65537};
        for (int width : far) {
            some.unchanged(DUE, "constant(" + width + ", 5)", -1, x -> x.constant(width, 5));
        }
    }

    private static void lowBitsOfConstants() {
        DUE.by("constant .. with the low bits of value");
        int[] widths = {1, 8, 16, 32};
        for (int w : widths) {
            long all = 1L << w;
            PathSolver x = new PathSolver();
            int zero = x.constant(w, 0);
            int ones = x.constant(w, all - 1);
            DUE.is("2^w is 0", x.constant(w, all), zero);
            DUE.is("2^w * 3 is 0", x.constant(w, all * 3), zero);
            DUE.is("-2^w is 0", x.constant(w, -all), zero);
            DUE.is("the least long is 0", x.constant(w, Long.MIN_VALUE), zero);
            DUE.is("-1 is all ones", x.constant(w, -1), ones);
            DUE.is("2^(w + 1) - 1 is all ones", x.constant(w, 2 * all - 1), ones);
            DUE.is("the greatest long is all ones", x.constant(w, Long.MAX_VALUE), ones);
            DUE.is("both are there", x.count(0), 2);
        }
        PathSolver x = new PathSolver();
        x.check();
        long[] values = {0, 1, -1, Long.MIN_VALUE, Long.MAX_VALUE, Long.MIN_VALUE + 1, 1L << 32};
        for (int i = 0; i < values.length; i++) {
            DUE.is("a long of its own", x.constant(64, values[i]), i);
            DUE.is("its value", x.value(i), values[i]);
        }
    }

    private static void constantsAndSixtyFourTerms() {
        DUE.by("constant: It would be the 65th: FULL.");
        Situation almost = new Situation("with 63 terms", x -> Situation.constants(x, 63));
        almost.gives(DUE, "constant(16, 63)", 63, x -> x.constant(16, 63));
        almost.unchanged(DUE, "constant(16, 62)", 62, x -> x.constant(16, 62));
        Situation full = new Situation("with 64 terms", x -> Situation.constants(x, 64));
        full.unchanged(DUE, "constant(16, 64)", -2, x -> x.constant(16, 64));
        full.unchanged(DUE, "constant(8, 63)", -2, x -> x.constant(8, 63));
        full.unchanged(DUE, "constant(16, 63)", 63, x -> x.constant(16, 63));
        full.unchanged(DUE, "constant(16, 65536)", 0, x -> x.constant(16, 65536));
    }
}
