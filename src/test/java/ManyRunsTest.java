import java.util.ArrayList;
import java.util.List;

/** All promises: runs of 512 calls on a PathSolver and a PlainSolver, which must answer alike. */
public final class ManyRunsTest {
    private static final int RUNS = 400;
    /** The document promises nothing about an object after its 512th call. */
    private static final int CALLS = 512;
    private static final int[] WIDTHS = {1, 8, 16, 32, 64};
    private static final int[] ODD_NUMBERS = {-1, -2, 63, 64, 65, Integer.MIN_VALUE,
        Integer.MAX_VALUE};

    private final Due due = new Due();
    private final Series series;
    private final PathSolver x = new PathSolver();
    private final PlainSolver plain = new PlainSolver();
    private final List<String> calls = new ArrayList<>();
    private boolean wrong = false;

    private ManyRunsTest(int seed) {
        series = new Series(seed);
    }

    public static void main(String[] args) {
        int runs = args.length > 0 ? Integer.parseInt(args[0]) : RUNS;
        int firstSeed = args.length > 1 ? Integer.parseInt(args[1]) : 1;
        for (int seed = firstSeed; seed < firstSeed + runs; seed++) {
            ManyRunsTest run = new ManyRunsTest(seed);
            run.play();
            if (run.wrong) {
                System.out.println("run " + seed + ":");
                run.calls.forEach(System.out::println);
                System.exit(1);
            }
        }
        System.out.println(runs + " runs, all answers alike");
    }

    private void play() {
        // Runs differ in how fast their paths grow: a long path is soon not FEASIBLE.
        int takes = 2 + series.nextInt(8);
        int entries = series.nextInt(6);
        while (calls.size() < CALLS && !wrong) {
            int kind = series.nextInt(60 + takes + entries);
            if (calls.size() < 3) {
                variable();
            } else if (kind < 20) {
                term();
            } else if (kind < 24) {
                constant();
            } else if (kind < 25) {
                variable();
            } else if (kind < 60) {
                ask();
            } else if (kind < 60 + takes) {
                take();
            } else {
                entry();
            }
        }
    }

    private void answered(String call, long got, long want) {
        calls.add(call + " -> " + got);
        due.is(call, got, want);
        wrong |= got != want;
    }

    private void variable() {
        int bits = oneIn(20) ? oddNumber() : 1 + series.nextInt(oneIn(4) ? 9 : 4);
        boolean signed = series.nextBoolean();
        answered("variable(" + bits + ", " + signed + ")", x.variable(bits, signed),
            plain.variable(bits, signed));
    }

    private void constant() {
        int width = oneIn(20) ? oddNumber() : width();
        long value = oneIn(4) ? series.nextLong() : series.nextInt(20) - 6;
        if (oneIn(10)) {
            value = 1L << series.nextInt(64);
        }
        answered("constant(" + width + ", " + value + ")", x.constant(width, value),
            plain.constant(width, value));
    }

    private void entry() {
        int t = oneIn(20) ? oddNumber() : series.nextInt(2);
        int i = oneIn(20) ? oddNumber() : series.nextInt(8);
        int value = oneIn(3) ? series.nextInt() : series.nextInt(12);
        answered("entry(" + t + ", " + i + ", " + value + ")", x.entry(t, i, value),
            plain.entry(t, i, value));
    }

    private void term() {
        int operation = oneIn(40) ? oddNumber() : series.nextInt(21);
        if ((operation == 8 || operation == 9 || operation == 7) && oneIn(2)) {
            // These cost much: fewer of them leave room for others.
            operation = 13 + series.nextInt(3);
        }
        int a = someTerm();
        int b = likeTerm(a);
        int c = likeTerm(b);
        if (operation == 16 && !oneIn(5)) {
            a = condition();
            b = someTerm();
            c = likeTerm(b);
        } else if (operation >= 17 && operation <= 19 && !oneIn(10)) {
            b = width();
        } else if (operation == 20 && !oneIn(10)) {
            b = series.nextInt(2);
        }
        answered("term(" + operation + ", " + a + ", " + b + ", " + c + ")",
            x.term(operation, a, b, c), plain.term(operation, a, b, c));
    }

    private void take() {
        int condition = condition();
        answered("take(" + condition + ")", x.take(condition), plain.take(condition));
    }

    private void ask() {
        int number = oneIn(10) ? oddNumber() : series.nextInt(18);
        int term = someTerm();
        switch (series.nextInt(14)) {
            case 0: answered("back()", x.back(), plain.back()); break;
            case 1: case 2: answered("check()", x.check(), plain.check()); break;
            case 3: case 4: flip(number); break;
            case 5: answered("search(" + number + ")", x.search(number), plain.search(number)); break;
            case 6: model(); break;
            case 7: case 8: answered("value(" + term + ")", x.value(term), plain.value(term)); break;
            case 9: answered("follows()", x.follows(), plain.follows()); break;
            case 10: answered("width(" + term + ")", x.width(term), plain.width(term)); break;
            case 11:
                answered("operation(" + term + ")", x.operation(term), plain.operation(term));
                break;
            case 12: operand(term); break;
            default: counts(); break;
        }
    }

    private void flip(int number) {
        int length = plain.count(2);
        int k = length > 0 && !oneIn(10) ? series.nextInt(length) : number;
        answered("flip(" + k + ")", x.flip(k), plain.flip(k));
    }

    private void model() {
        int v = oneIn(10) ? oddNumber() : series.nextInt(5);
        answered("model(" + v + ")", x.model(v), plain.model(v));
    }

    private void operand(int term) {
        int i = oneIn(10) ? oddNumber() : series.nextInt(4);
        answered("operand(" + term + ", " + i + ")", x.operand(term, i), plain.operand(term, i));
    }

    private void counts() {
        for (int what = -1; what <= 6 && calls.size() < CALLS; what++) {
            answered("count(" + what + ")", x.count(what), plain.count(what));
        }
    }

    private boolean oneIn(int n) {
        return series.nextInt(n) == 0;
    }

    private int oddNumber() {
        return ODD_NUMBERS[series.nextInt(ODD_NUMBERS.length)];
    }

    private int width() {
        return WIDTHS[series.nextInt(WIDTHS.length)];
    }

    private int someTerm() {
        int terms = plain.count(0);
        if (terms == 0 || oneIn(40)) {
            return oddNumber();
        }
        return series.nextInt(terms);
    }

    /** Mostly a term of the same width. */
    private int likeTerm(int term) {
        int other = someTerm();
        for (int i = 0; i < 30 && plain.width(other) != plain.width(term); i++) {
            other = someTerm();
        }
        return other;
    }

    private int condition() {
        int term = someTerm();
        for (int i = 0; i < 30 && plain.width(term) != 1; i++) {
            term = someTerm();
        }
        return term;
    }
}
