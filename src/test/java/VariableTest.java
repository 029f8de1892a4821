/** Promise 2: variable. */
public final class VariableTest {
    public static void main(String[] args) {
        Due due = new Due();
        numbersOfBits(due);
        atMostFour(due);
        atMostTenBits(due);
        sixtyFourTerms(due);
        upperBits(due);
        due.end();
    }

    private static void numbersOfBits(Due due) {
        int[] wrong = {0, -1, 9, 10, Integer.MIN_VALUE, Integer.MAX_VALUE};
        PathSolver x = new PathSolver();
        for (int bits : wrong) {
            due.is("variable(" + bits + ", false)", x.variable(bits, false), -1);
            due.is("variable(" + bits + ", true)", x.variable(bits, true), -1);
        }
        due.is("terms after refusals", x.count(0), 0);
        due.is("variables after refusals", x.count(3), 0);
        for (int bits = 1; bits <= 8; bits++) {
            PathSolver y = new PathSolver();
            y.constant(8, 1);
            due.is("variable(" + bits + ", true)", y.variable(bits, true), 1);
            due.is("width of a variable", y.width(1), 8);
            due.is("operation of a variable", y.operation(1), 22);
            due.is("cost of a variable", y.count(1), 0);
            due.is("variables", y.count(3), 1);
        }
    }

    private static void atMostFour(Due due) {
        PathSolver x = new PathSolver();
        for (int v = 0; v < 4; v++) {
            due.is("variable " + v, x.variable(1, v % 2 == 0), v);
        }
        due.is("variable 4", x.variable(1, false), -1);
        due.is("variables", x.count(3), 4);
        due.is("terms", x.count(0), 4);
    }

    private static void atMostTenBits(Due due) {
        PathSolver x = new PathSolver();
        due.is("8 bits", x.variable(8, false), 0);
        due.is("11 bits", x.variable(3, false), -1);
        due.is("10 bits", x.variable(2, false), 1);
        due.is("11 bits once more", x.variable(1, false), -1);
        due.is("variables", x.count(3), 2);
    }

    private static void sixtyFourTerms(Due due) {
        PathSolver x = new PathSolver();
        x.variable(5, false);
        for (int i = 1; i < 63; i++) {
            x.constant(8, i);
        }
        due.is("the 64th term", x.variable(2, false), 63);
        due.is("the 65th term", x.variable(2, false), -2);
        due.is("refused before full", x.variable(4, false), -1);
        due.is("refused before full", x.variable(9, false), -1);
        due.is("variables", x.count(3), 2);
        due.is("terms", x.count(0), 64);
        due.is("bits are not used up by FULL: check()", x.check(), 1);
        due.is("model(2)", x.model(2), -1);
    }

    /** Sixteen values, the least and the greatest too, of each number of bits. */
    private static void upperBits(Due due) {
        for (int bits = 1; bits <= 8; bits++) {
            for (int signed = 0; signed < 2; signed++) {
                PathSolver x = new PathSolver();
                int v = x.variable(bits, signed == 1);
                for (int i = 0; i < 16; i++) {
                    int value = i * ((1 << bits) - 1) / 15;
                    int read = value;
                    if ((signed == 1 || bits == 8) && value >= 1 << (bits - 1)) {
                        read = value - (1 << bits);
                    }
                    x.take(x.term(13, v, x.constant(8, read), 0));
                    String text = bits + (signed == 1 ? " signed" : " plain") + " bits " + value;
                    due.is("check of " + text, x.check(), 1);
                    due.is("model of " + text, x.model(0), value);
                    due.is("value of " + text, x.value(v), read);
                    x.back();
                }
            }
        }
    }
}
