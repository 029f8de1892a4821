import java.util.List;

/** Section Terms: how many terms, variables and bits there may be, tables, and the model's order. */
public final class TermsBoundaryTest {
    private static final Due DUE = new Due();

    public static void main(String[] args) {
        sixtyFourTerms();
        theLastTermIsLikeAnyOther();
        conditionsHold();
        numbersOfBits();
        bitsTogether();
        upperBitsOfPlainOnes();
        upperBitsOfSignedOnes();
        tablesAtFirst();
        lateEntries();
        entriesWithSixtyFourTerms();
        entriesOfBothTables();
        orderOfModels();
        fiveHundredAndTwelveCalls();
        DUE.end();
    }

    /** All three ways in which terms come to be count for the same 64. */
    private static void sixtyFourTerms() {
        DUE.by("TERMS are numbered 0, 1, .. as they come to be, at most 64");
        for (int last = 0; last < 3; last++) {
            PathSolver x = new PathSolver();
            sixtyThree(x);
            DUE.is("the 64th", last == 0 ? x.variable(2, false)
                : last == 1 ? x.constant(8, 200) : x.term(1, 0, 0, 0), 63);
            DUE.is("terms", x.count(0), 64);
            DUE.is("the 65th by variable", x.variable(1, false), -2);
            DUE.is("the 65th by constant", x.constant(8, 201), -2);
            DUE.is("the 65th by term", x.term(1, 1, 0, 0), -2);
            DUE.is("the 65th by a term that is a constant", x.term(6, 0, 0, 0), -2);
            DUE.is("terms", x.count(0), 64);
        }
        Situation full = Situation.fullOfTerms();
        full.unchanged(DUE, "variable(1, false)", -2, x -> x.variable(1, false));
        full.unchanged(DUE, "constant(8, 99)", -2, x -> x.constant(8, 99));
        full.unchanged(DUE, "term(1, 0, 0, 0)", -2, x -> x.term(1, 0, 0, 0));
        full.unchanged(DUE, "term(13, 0, 0, 0)", -2, x -> x.term(13, 0, 0, 0));
    }

    private static void sixtyThree(PathSolver x) {
        DUE.is("the first", x.variable(3, false), 0);
        DUE.is("the second", x.variable(3, false), 1);
        DUE.is("the third", x.term(0, 0, 0, 0), 2);
        for (int i = 3; i < 63; i++) {
            DUE.is("one more", x.constant(16, i), i);
        }
    }

    private static void theLastTermIsLikeAnyOther() {
        DUE.by("TERMS are numbered 0, 1, .. as they come to be, at most 64");
        PathSolver x = new PathSolver();
        sixtyThree(x);
        int condition = x.term(14, 1, 2, 0);
        DUE.is("the 64th", condition, 63);
        DUE.is("it is taken", x.take(condition), 1);
        DUE.is("check()", x.check(), 1);
        DUE.is("its value", x.value(condition), -1);
        DUE.is("term 64 has none", x.value(64), PathSolver.NONE);
        DUE.is("flip(0): it can't fail", x.flip(0), 0);
        PathSolver y = new PathSolver();
        sixtyThree(y);
        int never = y.term(14, 2, 1, 0);
        DUE.is("one that can't hold", never, 63);
        y.take(never);
        DUE.is("check() of it", y.check(), 0);
        DUE.is("flip(0) of it", y.flip(0), 1);
    }

    private static void entriesWithSixtyFourTerms() {
        DUE.by("TABLE entries that are set after a TERM of 20 was made count for it");
        PathSolver x = new PathSolver();
        x.variable(3, false);
        for (int i = 1; i < 62; i++) {
            x.constant(16, i);
        }
        int bit = x.term(19, x.term(20, 0, 1, 0), 1, 0);
        DUE.is("the 64th term", bit, 63);
        x.take(bit);
        DUE.is("check()", x.check(), 0);
        DUE.is("entry(1, 7, 1)", x.entry(1, 7, 1), 0);
        DUE.is("check()", x.check(), 1);
        DUE.is("model(0)", x.model(0), 7);
        DUE.is("entry(0, 7, 0)", x.entry(0, 7, 0), 0);
        DUE.is("check()", x.check(), 1);
    }

    /** A condition of both tables: an entry of either counts for it. */
    private static void entriesOfBothTables() {
        DUE.by("TABLE entries that are set after a TERM of 20 was made count for it");
        for (int t = 0; t < 2; t++) {
            PathSolver x = new PathSolver();
            x.variable(3, false);
            int sum = x.term(5, x.term(20, 0, t, 0), x.term(20, 0, 1 - t, 0), 0);
            int deeper = x.term(20, sum, 1 - t, 0);
            x.take(x.term(13, deeper, x.constant(8, 9), 0));
            DUE.is("check()", x.check(), 0);
            x.entry(1 - t, 3, 9);
            DUE.is("check(): 0 at all places but 3", x.check(), 0);
            x.entry(t, 5, 3);
            DUE.is("check() with an entry of table " + t, x.check(), 1);
            DUE.is("model(0)", x.model(0), 5);
            x.entry(1 - t, 1, 3);
            DUE.is("check() with an entry of table " + (1 - t), x.check(), 1);
            DUE.is("model(0)", x.model(0), 1);
        }
    }

    private static void conditionsHold() {
        DUE.by("A CONDITION is a TERM of WIDTH 1; it holds if its bit is 1.");
        long[] values = {0, 1, -1, 2, 3, Long.MIN_VALUE, Long.MAX_VALUE};
        for (long value : values) {
            PathSolver x = new PathSolver();
            x.take(x.constant(1, value));
            int holds = (value & 1) == 1 ? 1 : 0;
            DUE.is("check of constant(1, " + value + ")", x.check(), holds);
            DUE.is("flip of constant(1, " + value + ")", x.flip(0), 1 - holds);
            DUE.is("follows() of constant(1, " + value + ")", x.follows(), holds);
        }
    }

    private static void numbersOfBits() {
        DUE.by("VARIABLES 0 .. 3 have 1 .. 8 BITS");
        for (int bits = -3; bits <= 12; bits++) {
            int given = bits;
            for (Situation now : List.of(new Situation("at first", x -> { }),
                    new Situation("behind one", x -> x.variable(1, true)))) {
                String text = "variable(" + bits + ", false)";
                int terms = now.make().count(0);
                if (bits >= 1 && bits <= 8) {
                    now.gives(DUE, text, terms, x -> x.variable(given, false));
                } else {
                    now.unchanged(DUE, text, -1, x -> x.variable(given, false));
                }
            }
        }
    }

    /** All rows of four numbers of bits, and then a fifth one. */
    private static void bitsTogether() {
        DUE.by("VARIABLES 0 .. 3 have 1 .. 8 BITS, together at most 10");
        for (int row = 0; row < 8 * 8 * 8 * 8; row++) {
            PathSolver x = new PathSolver();
            int together = 0;
            int made = 0;
            for (int i = 0; i < 4; i++) {
                int bits = 1 + (row >> (3 * i)) % 8;
                boolean fits = together + bits <= 10;
                DUE.is(bits + " bits behind " + together, x.variable(bits, i % 2 == 0),
                    fits ? made : -1);
                together += fits ? bits : 0;
                made += fits ? 1 : 0;
            }
            DUE.is("variables", x.count(3), made);
            DUE.is("terms", x.count(0), made);
            boolean more = made < 4 && together < 10;
            DUE.is("a bit more", x.variable(1, false), more ? made : -1);
        }
    }

    private static void upperBitsOfPlainOnes() {
        DUE.by("each is a TERM of WIDTH 8 whose upper bits are 0 (plain)");
        for (int bits = 1; bits <= 8; bits++) {
            int count = 1 << bits;
            int[] inside = {0, count / 2 - 1, count / 2, count - 1};
            for (int value : inside) {
                found(bits, false, value, value);
            }
            if (bits < 8) {
                int[] outside = {count, 256 - count, 128, 255};
                for (int value : outside) {
                    notFound(bits, false, value);
                }
            }
        }
    }

    private static void upperBitsOfSignedOnes() {
        DUE.by("or all like its own top bit (signed)");
        for (int bits = 1; bits <= 8; bits++) {
            int half = 1 << (bits - 1);
            found(bits, true, 0, 0);
            found(bits, true, half - 1, half - 1);
            found(bits, true, -half, half);
            found(bits, true, -1, 2 * half - 1);
            if (bits < 8) {
                notFound(bits, true, half);
                notFound(bits, true, -half - 1);
                notFound(bits, true, 127);
                notFound(bits, true, -128);
            }
        }
    }

    private static void found(int bits, boolean signed, int value, int model) {
        PathSolver x = new PathSolver();
        x.variable(bits, signed);
        x.take(x.term(13, 0, x.constant(8, value), 0));
        String text = value + " of " + bits + (signed ? " signed" : " plain") + " bits";
        DUE.is("check for " + text, x.check(), 1);
        DUE.is("model(0) for " + text, x.model(0), model);
        DUE.is("value for " + text, x.value(0), (byte) value);
    }

    private static void notFound(int bits, boolean signed, int value) {
        PathSolver x = new PathSolver();
        x.variable(bits, signed);
        x.take(x.term(13, 0, x.constant(8, value), 0));
        DUE.is("check for " + value + " of " + bits + (signed ? " signed" : " plain") + " bits",
            x.check(), 0);
    }

    private static void tablesAtFirst() {
        DUE.by("TABLES 0 and 1 have eight entries of 8 bits, all 0 at first.");
        PathSolver x = new PathSolver();
        x.check();
        for (int i = 0; i < 8; i++) {
            int place = x.constant(8, i);
            for (int t = 0; t < 2; t++) {
                DUE.is("entry " + i + " of table " + t, x.value(x.term(20, place, t, 0)), 0);
            }
        }
    }

    /** Each entry of each table on its own, set before, between and after checks. */
    private static void lateEntries() {
        DUE.by("TABLE entries that are set after a TERM of 20 was made count for it, too "
            + "(but constants of step 1 stay).");
        for (int t = 0; t < 2; t++) {
            for (int i = 0; i < 8; i++) {
                PathSolver x = new PathSolver();
                int v = x.variable(3, false);
                int seen = x.term(20, v, t, 0);
                int constant = x.term(20, x.constant(8, i), t, 0);
                x.take(x.term(13, seen, x.constant(8, 255), 0));
                DUE.is("check before", x.check(), 0);
                x.entry(1 - t, i, 255);
                DUE.is("check with the other table's entry", x.check(), 0);
                x.entry(t, i, 255);
                DUE.is("check after", x.check(), 1);
                DUE.is("model(0)", x.model(0), i);
                DUE.is("value of the term", x.value(seen), -1);
                DUE.is("value of the constant", x.value(constant), 0);
                x.entry(t, i, 254);
                DUE.is("check at the end", x.check(), 0);
                DUE.is("value at the end", x.value(seen), -2);
            }
        }
    }

    /** Whatever is left to choose from: the first in the order, signed or not. */
    private static void orderOfModels() {
        DUE.by("THE MODEL is then the first of these in the order of variable 0's bits as a number "
            + "not below 0, of equal ones variable 1's, and so on.");
        for (int kind = 0; kind < 4; kind++) {
            PathSolver x = new PathSolver();
            int v = x.variable(2, kind % 2 == 1);
            int w = x.variable(2, kind / 2 == 1);
            int zero = x.constant(8, 0);
            x.take(x.term(13, v, zero, 0));
            x.take(x.term(13, w, zero, 0));
            DUE.is("check()", x.check(), 1);
            models(x, 0, 0);
            DUE.is("flip(1): v is 0, w is not", x.flip(1), 1);
            models(x, 0, 1);
            DUE.is("flip(0): v is not 0", x.flip(0), 1);
            models(x, 1, 0);
            x.back();
            x.back();
            x.take(x.term(13, x.term(11, v, x.constant(8, 1), 0), zero, 0));
            DUE.is("flip(0): v has its top bit", x.flip(0), 1);
            models(x, 2, 0);
            x.back();
            int both = x.term(4, v, w, 0);
            x.take(x.term(13, both, x.constant(8, 1), 0));
            DUE.is("check of v XOR w", x.check(), 1);
            models(x, 0, 1);
            x.take(x.term(13, v, zero, 0));
            DUE.is("flip(1): v is not 0", x.flip(1), 1);
            models(x, 1, 0);
        }
    }

    private static void models(PathSolver x, int v, int w) {
        DUE.is("model(0)", x.model(0), v);
        DUE.is("model(1)", x.model(1), w);
    }

    private static void fiveHundredAndTwelveCalls() {
        DUE.by("An object is used for at most 512 calls after it has been made");
        PathSolver x = new PathSolver();
        x.variable(8, false);
        x.term(20, 0, 0, 0);
        x.constant(8, 9);
        x.take(x.term(13, 1, 2, 0));
        for (int calls = 5; calls < 511; calls += 2) {
            int i = calls % 8;
            DUE.is("call " + (calls + 1), x.entry(0, i, calls % 3 == 0 ? 9 : 8), 0);
            DUE.is("call " + (calls + 2), x.count(2), 1);
        }
        DUE.is("call 512", x.check(), 1);
    }
}
