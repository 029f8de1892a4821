/** Promise 4: entry, and looking up before and after. */
public final class EntryTest {
    public static void main(String[] args) {
        Due due = new Due();
        refusals(due);
        lowEightBits(due);
        entriesCountForTermsMadeBefore(due);
        constantsStay(due);
        tablesAreApart(due);
        due.end();
    }

    private static void refusals(Due due) {
        PathSolver x = new PathSolver();
        int v = x.variable(3, false);
        int seen = x.term(20, v, 0, 0);
        int[][] wrong = {{-1, 0}, {2, 0}, {0, -1}, {0, 8}, {1, 8}, {1, -1},
            {Integer.MIN_VALUE, 0}, {Integer.MAX_VALUE, 0}, {0, Integer.MIN_VALUE},
            {0, Integer.MAX_VALUE}};
        for (int[] row : wrong) {
            due.is("entry(" + row[0] + ", " + row[1] + ", 1)", x.entry(row[0], row[1], 1), -1);
        }
        int zero = x.constant(8, 0);
        x.take(x.term(13, seen, zero, 0));
        due.is("a refused entry is not set: flip(0)", x.flip(0), 0);
    }

    private static void lowEightBits(Due due) {
        int[][] rows = {{0, 0}, {127, 127}, {128, -128}, {255, -1}, {256, 0}, {-1, -1},
            {-129, 127}, {Integer.MIN_VALUE, 0}, {Integer.MAX_VALUE, -1}};
        PathSolver x = new PathSolver();
        int place = x.constant(8, 6);
        x.check();
        for (int t = 0; t < 2; t++) {
            for (int[] row : rows) {
                due.is("entry(" + t + ", 6, " + row[0] + ")", x.entry(t, 6, row[0]), 0);
                due.is("its value", x.value(x.term(20, place, t, 0)), row[1]);
            }
        }
    }

    private static void entriesCountForTermsMadeBefore(Due due) {
        PathSolver x = new PathSolver();
        int v = x.variable(4, false);
        int seen = x.term(20, v, 1, 0);
        int deeper = x.term(5, seen, x.constant(8, 1), 0);
        int condition = x.term(13, deeper, x.constant(8, 9), 0);
        x.take(condition);
        due.is("check with all entries 0", x.check(), 0);
        x.entry(1, 5, 8);
        due.is("check with entry 5", x.check(), 1);
        due.is("model(0)", x.model(0), 5);
        due.is("value", x.value(deeper), 9);
        x.entry(1, 5, 3);
        due.is("the model stays", x.model(0), 5);
        due.is("the value is by the entries now", x.value(deeper), 4);
        due.is("follows()", x.follows(), 0);
        due.is("check", x.check(), 0);
        x.entry(0, 2, 8);
        due.is("check after an entry of the other table", x.check(), 0);
        x.entry(1, 2, 8);
        due.is("check with entry 2", x.check(), 1);
        due.is("model(0)", x.model(0), 2);
        due.is("the same term after entries", x.term(20, v, 1, 0), seen);
        x.entry(1, 0, 8);
        due.is("flip(0)", x.flip(0), 1);
        due.is("model(0)", x.model(0), 1);
        due.is("search(1)", x.search(1), 0);
        x.entry(1, 1, 8);
        due.is("search(1)", x.search(1), 0);
        due.is("model(0)", x.model(0), 3);
        due.is("check with entry 0", x.check(), 1);
        due.is("model(0)", x.model(0), 0);
        x.entry(1, 0, 7);
        due.is("check without entry 0", x.check(), 1);
        due.is("model(0)", x.model(0), 1);
    }

    private static void constantsStay(Due due) {
        PathSolver x = new PathSolver();
        int place = x.constant(8, 3);
        x.entry(0, 3, 50);
        int first = x.term(20, place, 0, 0);
        due.is("operation", x.operation(first), 21);
        x.entry(0, 3, 51);
        x.check();
        due.is("value of the constant made before", x.value(first), 50);
        int second = x.term(20, place, 0, 0);
        due.is("a constant made after", x.value(second), 51);
        x.entry(0, 3, 50);
        due.is("the first one again", x.term(20, place, 0, 0), first);
    }

    private static void tablesAreApart(Due due) {
        PathSolver x = new PathSolver();
        int v = x.variable(8, false);
        int[] seen = {x.term(20, v, 0, 0), x.term(20, v, 1, 0)};
        due.holds("two tables give two terms", seen[0] != seen[1]);
        for (int i = 0; i < 8; i++) {
            x.entry(0, i, 10 + i);
            x.entry(1, i, 90 + i);
        }
        for (int value = 0; value < 256; value += 11) {
            x.take(x.term(13, v, x.constant(8, value), 0));
            due.is("check for " + value, x.check(), 1);
            due.is("entry of table 0 for " + value, x.value(seen[0]), 10 + value % 8);
            due.is("entry of table 1 for " + value, x.value(seen[1]), 90 + value % 8);
            x.back();
        }
    }
}
