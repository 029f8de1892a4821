/** Promise 4, sentence by sentence: the last number that is allowed, and the first that is not. */
public final class EntryBoundaryTest {
    private static final int MIN = Integer.MIN_VALUE;
    private static final int MAX = Integer.MAX_VALUE;
    private static final Due DUE = new Due();

    public static void main(String[] args) {
        tablesAndPlaces();
        lowBitsOfEntries();
        DUE.end();
    }

    private static void tablesAndPlaces() {
        DUE.by("Sets entry i 0 .. 7 of TABLE t 0 .. 1 to the low 8 bits of value: 0.");
        Situation some = new Situation("with a path and a model", Situation::model);
        for (int t = -1; t <= 2; t++) {
            for (int i = -1; i <= 8; i++) {
                int table = t;
                int place = i;
                String text = "entry(" + t + ", " + i + ", 41)";
                if (t < 0 || t > 1 || i < 0 || i > 7) {
                    some.unchanged(DUE, text, -1, x -> x.entry(table, place, 41));
                } else {
                    some.gives(DUE, text, 0, x -> x.entry(table, place, 41));
                    onlyThatEntry(some, t, i);
                }
            }
        }
        int[] far = {MIN, MAX, MIN + 1, 16, 256};
        for (int odd : far) {
            some.unchanged(DUE, "entry(" + odd + ", 0, 41)", -1, x -> x.entry(odd, 0, 41));
            some.unchanged(DUE, "entry(0, " + odd + ", 41)", -1, x -> x.entry(0, odd, 41));
        }
    }

    private static void lowBitsOfEntries() {
        DUE.by("entry .. to the low 8 bits of value");
        int[] values = {0, 1, 127, 128, 255, 256, 257, 383, 384, 511, 512, -1, -127, -128, -129, -255,
            -256, -257, MIN, MAX, MIN + 127, MAX - 127};
        for (int value : values) {
            PathSolver x = new PathSolver();
            int v = x.variable(3, false);
            int seen = x.term(20, v, 1, 0);
            DUE.is("entry(1, 0, " + value + ")", x.entry(1, 0, value), 0);
            x.check();
            DUE.is("value of entry " + value, x.value(seen), (byte) value);
            DUE.is("constant of entry " + value, entryOf(x, 1, 0), (byte) value);
            int wide = x.term(17, seen, 64, 0);
            DUE.is("8 bits of entry " + value, x.value(wide), value & 255);
        }
    }

    private static void onlyThatEntry(Situation some, int t, int i) {
        PathSolver x = some.make();
        PathSolver y = some.make();
        x.entry(t, i, 41);
        for (int place = 0; place < 8; place++) {
            for (int table = 0; table < 2; table++) {
                long due = table == t && place == i ? 41 : entryOf(y, table, place);
                DUE.is("entry " + place + " of table " + table, entryOf(x, table, place), due);
            }
        }
    }

    private static long entryOf(PathSolver x, int t, int i) {
        return x.value(x.term(20, x.constant(8, i), t, 0));
    }
}
