import java.util.ArrayList;
import java.util.List;
import java.util.Set;
import java.util.TreeSet;

/**
 * Section What it is: a small program of two numbers is run, the conditions that it meets are put
 * on a path, and the values that take the path up to a place and then the other way are its next
 * numbers, until no way through it is left. All ways are known by running it with all numbers.
 */
public final class ExploringTest {
    private static final int X_BITS = 5;
    private static final int Y_BITS = 4;
    private static final int NONE_LEFT = -1;
    private static final Due DUE = new Due();

    /** Which conditions the program meets on each side of its first one. */
    private static final int[] IF_BELOW_ZERO = {1, 0, 3, 5};
    private static final int[] IF_NOT_BELOW_ZERO = {1, 2, 4, 3, 5};

    private final Set<String> found = new TreeSet<>();

    public static void main(String[] args) {
        DUE.by("it is found out which values take the path, or take it up to a place and then the "
            + "other way");
        ExploringTest test = new ExploringTest();
        test.explore(0, 0, 0);
        DUE.holds("all ways are found, and no others: " + test.found, test.found.equals(allWays()));
        everyPlace();
        DUE.end();
    }

    /** Runs the program, and goes on with each other way at a place from the given one on. */
    private void explore(int x, int y, int from) {
        List<Boolean> way = way(x, y);
        DUE.holds("the way of " + x + ", " + y + " is new", found.add(way.toString()));
        PathSolver solver = solverWith(way);
        DUE.is("check()", solver.check(), 1);
        int limit = way.size();
        for (int turns = 0; turns < 16; turns++) {
            int k = solver.search(limit);
            if (k < from) {
                return;
            }
            int nextX = solver.model(0);
            int nextY = solver.model(1);
            DUE.holds("it leaves " + way + " at " + k + " with " + nextX + ", " + nextY,
                leavesAt(way, k, way(nextX, nextY)));
            DUE.is("follows()", solver.follows(), k);
            explore(nextX, nextY, k + 1);
            limit = k;
        }
    }

    /** For every way and place: what check and flip find is the first of all that could be. */
    private static void everyPlace() {
        Set<String> done = new TreeSet<>();
        for (int input = 0; input < 1 << (X_BITS + Y_BITS); input++) {
            List<Boolean> way = way(input >> Y_BITS, input & ((1 << Y_BITS) - 1));
            if (!done.add(way.toString())) {
                continue;
            }
            PathSolver solver = solverWith(way);
            DUE.is("check() of " + way, solver.check(), 1);
            modelIs(solver, input);
            for (int k = 0; k < way.size(); k++) {
                int first = firstLeaving(way, k);
                DUE.is("flip(" + k + ") of " + way, solver.flip(k), first == NONE_LEFT ? 0 : 1);
                if (first != NONE_LEFT) {
                    modelIs(solver, first);
                }
            }
        }
    }

    private static void modelIs(PathSolver solver, int input) {
        DUE.is("model(0)", solver.model(0), input >> Y_BITS);
        DUE.is("model(1)", solver.model(1), input & ((1 << Y_BITS) - 1));
    }

    private static int firstLeaving(List<Boolean> way, int k) {
        for (int input = 0; input < 1 << (X_BITS + Y_BITS); input++) {
            if (leavesAt(way, k, way(input >> Y_BITS, input & ((1 << Y_BITS) - 1)))) {
                return input;
            }
        }
        return NONE_LEFT;
    }

    private static boolean leavesAt(List<Boolean> way, int k, List<Boolean> other) {
        return other.size() > k && other.subList(0, k).equals(way.subList(0, k))
            && !other.get(k).equals(way.get(k));
    }

    private static Set<String> allWays() {
        Set<String> all = new TreeSet<>();
        for (int input = 0; input < 1 << (X_BITS + Y_BITS); input++) {
            all.add(way(input >> Y_BITS, input & ((1 << Y_BITS) - 1)).toString());
        }
        return all;
    }

    /** The program: which of the conditions that it meets hold. y is given by its bits. */
    private static List<Boolean> way(int x, int yBits) {
        int y = yBits < 1 << (Y_BITS - 1) ? yBits : yBits - (1 << Y_BITS);
        List<Boolean> way = new ArrayList<>();
        for (int condition : y < 0 ? IF_BELOW_ZERO : IF_NOT_BELOW_ZERO) {
            way.add(holds(condition, x, y));
        }
        return way;
    }

    private static boolean holds(int condition, int x, int y) {
        switch (condition) {
            case 0: return x + y == 20;
            case 1: return y < 0;
            case 2: return x < 9;
            case 3: return (x % 8) * (x % 8) == 25;
            case 4: return (y == 0 ? 255 : x / y) < 2;
            default: return (x + y) % 2 != 0;
        }
    }

    /** A solver with the conditions of a way on its path, in terms of x and y. */
    private static PathSolver solverWith(List<Boolean> way) {
        PathSolver solver = new PathSolver();
        int x = solver.variable(X_BITS, false);
        int y = solver.variable(Y_BITS, true);
        for (int i = 0; i < 8; i++) {
            solver.entry(1, i, i * i);
        }
        int[] met = way.get(0) ? IF_BELOW_ZERO : IF_NOT_BELOW_ZERO;
        for (int k = 0; k < met.length; k++) {
            int condition = condition(solver, met[k], x, y);
            int taken = way.get(k) ? condition : solver.term(0, condition, 0, 0);
            DUE.is("take()", solver.take(taken), k + 1);
        }
        return solver;
    }

    private static int condition(PathSolver solver, int condition, int x, int y) {
        switch (condition) {
            case 0: return solver.term(13, solver.term(5, x, y, 0), solver.constant(8, 20), 0);
            case 1: return solver.term(15, y, solver.constant(8, 0), 0);
            case 2: return solver.term(14, x, solver.constant(8, 9), 0);
            case 3: return solver.term(13, solver.term(20, x, 1, 0), solver.constant(8, 25), 0);
            case 4: return solver.term(14, solver.term(8, x, y, 0), solver.constant(8, 2), 0);
            default: return solver.term(19, solver.term(4, x, y, 0), 1, 0);
        }
    }
}
