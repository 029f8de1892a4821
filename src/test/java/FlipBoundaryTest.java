/** Promises 9 and 10, sentence by sentence: the first place, the last, and those that are none. */
public final class FlipBoundaryTest {
    private static final int MIN = Integer.MIN_VALUE;
    private static final int MAX = Integer.MAX_VALUE;
    private static final Due DUE = new Due();

    public static void main(String[] args) {
        placesOfAPath();
        onlyThoseBefore();
        theOneAtPlaceDoesNot();
        justOneChoice();
        noLeavesTheModel();
        greatestPlaceBelowTheLimit();
        placesThatCanNotBe();
        noneIsFound();
        limitsBelowNothing();
        limitsAboveTheLength();
        searchOfAnEmptyPath();
        checksInsideSearch();
        DUE.end();
    }

    /** The path "v is not 0", "v is not 1" .. of that length, for v of 32 values. */
    private static void notEqual(PathSolver x, int length) {
        x.variable(5, false);
        for (int i = 0; i < length; i++) {
            x.take(x.term(0, x.term(13, 0, x.constant(8, i), 0), 0, 0));
        }
    }

    private static void placesOfAPath() {
        DUE.by("flip: There is no place k: REFUSED.");
        for (int length = 0; length <= 16; length++) {
            int count = length;
            Situation now = new Situation("with " + length, x -> notEqual(x, count));
            for (int k = 0; k < length; k++) {
                PathSolver x = now.make();
                DUE.is("flip(" + k + ") of " + length, x.flip(k), 1);
                DUE.is("model(0)", x.model(0), k);
                DUE.is("follows()", x.follows(), k);
                DUE.is("FEASIBLE ones", x.count(4), 1);
                DUE.is("conditions", x.count(2), length);
            }
            int[] wrong = {-1, length, length + 1, 16, 17, MIN, MAX};
            for (int k : wrong) {
                now.unchanged(DUE, "flip(" + k + ")", -1, x -> x.flip(k));
            }
        }
    }

    private static void onlyThoseBefore() {
        DUE.by("Whether the CONDITIONS of THE PATH before place k, from 0, all hold");
        PathSolver x = new PathSolver();
        x.variable(3, false);
        int always = x.constant(1, 1);
        int never = x.constant(1, 0);
        int odd = x.term(19, 0, 1, 0);
        int[] path = {odd, always, never, odd};
        for (int condition : path) {
            x.take(condition);
        }
        DUE.is("flip(0): nothing is before, what comes after does not count", x.flip(0), 1);
        DUE.is("model(0)", x.model(0), 0);
        DUE.is("flip(1)", x.flip(1), 0);
        DUE.is("flip(2)", x.flip(2), 1);
        DUE.is("model(0)", x.model(0), 1);
        DUE.is("flip(3): one before can't hold", x.flip(3), 0);
        DUE.is("model(0)", x.model(0), 1);
    }

    private static void theOneAtPlaceDoesNot() {
        DUE.by("and the one at k does not");
        PathSolver x = new PathSolver();
        x.variable(3, false);
        int odd = x.term(19, 0, 1, 0);
        x.take(odd);
        x.take(odd);
        DUE.is("flip(1): it is there twice", x.flip(1), 0);
        DUE.is("no model", x.follows(), -1);
        DUE.is("flip(0)", x.flip(0), 1);
        DUE.is("value of it", x.value(odd), 0);
        x.back();
        x.take(x.term(0, odd, 0, 0));
        DUE.is("check() of it and its NOT", x.check(), 0);
        DUE.is("flip(1) of its NOT", x.flip(1), 1);
        DUE.is("value of it", x.value(odd), -1);
    }

    /** Every choice of values of ten bits can be the only one that leaves the path. */
    private static void justOneChoice() {
        DUE.by("flip: YES, and THE MODEL is set");
        for (int choice = 0; choice < 1024; choice++) {
            PathSolver x = new PathSolver();
            x.variable(3, false);
            x.variable(7, false);
            int first = x.term(13, 0, x.constant(8, choice >> 7), 0);
            int second = x.term(13, 1, x.constant(8, choice & 127), 0);
            x.take(x.term(0, x.term(2, first, second, 0), 0, 0));
            DUE.is("flip(0) for " + choice, x.flip(0), 1);
            DUE.is("model(0)", x.model(0), choice >> 7);
            DUE.is("model(1)", x.model(1), choice & 127);
        }
    }

    private static void noLeavesTheModel() {
        DUE.by("flip: YES, and THE MODEL is set, or NO.");
        PathSolver x = new PathSolver();
        x.variable(3, false);
        x.take(x.term(14, x.constant(8, 4), 0, 0));
        x.take(x.constant(1, 1));
        x.check();
        x.variable(2, false);
        DUE.is("flip(1)", x.flip(1), 0);
        DUE.is("model(0)", x.model(0), 5);
        DUE.is("model(1)", x.model(1), -1);
        DUE.is("follows()", x.follows(), 2);
        DUE.is("others", x.count(5), 1);
        DUE.is("flip(0)", x.flip(0), 1);
        DUE.is("model(0)", x.model(0), 0);
        DUE.is("model(1)", x.model(1), 0);
    }

    private static void greatestPlaceBelowTheLimit() {
        DUE.by("Sets THE MODEL by flip of the greatest place k below limit for which that is "
            + "FEASIBLE: k");
        for (int limit = 1; limit <= 16; limit++) {
            PathSolver x = new PathSolver();
            notEqual(x, 16);
            DUE.is("search(" + limit + ")", x.search(limit), limit - 1);
            DUE.is("model(0)", x.model(0), limit - 1);
            DUE.is("follows()", x.follows(), limit - 1);
            DUE.is("FEASIBLE ones", x.count(4), 1);
            DUE.is("others", x.count(5), 0);
        }
    }

    /** Only one place k can be flipped: it is found by every limit above k, and by no other. */
    private static void placesThatCanNotBe() {
        DUE.by("the greatest place k below limit for which that is FEASIBLE: k; -1 if there is none");
        for (int k = 0; k < 16; k++) {
            int place = k;
            Situation now = new Situation("with place " + k, x -> onlyAt(x, place));
            for (int limit = 1; limit <= 17; limit++) {
                PathSolver x = now.make();
                boolean found = limit > k;
                DUE.is("search(" + limit + ") " + now.name, x.search(limit), found ? k : -1);
                DUE.is("model(0)", x.model(0), found ? 0 : -1);
                DUE.is("FEASIBLE ones", x.count(4), found ? 1 : 0);
                int above = Math.min(limit, 16) - (found ? k + 1 : 0);
                DUE.is("others", x.count(5), above);
            }
        }
    }

    private static void onlyAt(PathSolver x, int place) {
        x.variable(3, false);
        int odd = x.term(19, 0, 1, 0);
        int always = x.constant(1, 1);
        for (int i = 0; i < 16; i++) {
            x.take(i == place ? odd : always);
        }
    }

    private static void noneIsFound() {
        DUE.by("search: -1 if there is none");
        PathSolver x = new PathSolver();
        x.variable(3, false);
        x.take(x.term(14, x.constant(8, 4), 0, 0));
        x.check();
        x.back();
        for (int i = 0; i < 16; i++) {
            x.take(x.constant(1, 1));
        }
        DUE.is("search(16)", x.search(16), -1);
        DUE.is("model(0) stays", x.model(0), 5);
        DUE.is("FEASIBLE ones", x.count(4), 1);
        DUE.is("others", x.count(5), 16);
        PathSolver y = new PathSolver();
        y.take(y.constant(1, 1));
        DUE.is("search(1)", y.search(1), -1);
        DUE.is("no model", y.follows(), -1);
    }

    private static void limitsBelowNothing() {
        DUE.by("A limit below 0 counts as 0");
        int[] limits = {0, -1, -2, -16, MIN, MIN + 1};
        for (Situation now : Situation.all()) {
            for (int limit : limits) {
                now.unchanged(DUE, "search(" + limit + ")", -1, x -> x.search(limit));
            }
        }
    }

    private static void limitsAboveTheLength() {
        DUE.by("A limit .. above the length of THE PATH as that.");
        int[] limits = {1, 2, 15, 16, 17, 100, MAX - 1, MAX};
        for (Situation now : Situation.all()) {
            int length = now.make().count(2);
            Situation searched = new Situation(now.name, x -> {
                now.on(x);
                x.search(length);
            });
            for (int limit : limits) {
                if (limit >= length) {
                    PathSolver x = now.make();
                    DUE.is("search(" + limit + ") " + now.name, x.search(limit),
                        now.make().search(length));
                    DUE.holds("search(" + limit + ") leaves all as search(" + length + ")",
                        Portrait.of(x, 0).equals(Portrait.of(searched.make(), 0)));
                }
            }
        }
        PathSolver x = new PathSolver();
        notEqual(x, 3);
        DUE.is("search(2)", x.search(2), 1);
        DUE.is("search(3)", x.search(3), 2);
        DUE.is("search(4)", x.search(4), 2);
        DUE.is("search(16)", x.search(16), 2);
        DUE.is("search(17)", x.search(17), 2);
        DUE.is("search(MAX)", x.search(MAX), 2);
    }

    private static void searchOfAnEmptyPath() {
        DUE.by("A limit .. above the length of THE PATH as that.");
        int[] limits = {MIN, -1, 0, 1, 16, MAX};
        Situation empty = new Situation("of an empty path", x -> {
            Situation.model(x);
            x.back();
            x.back();
            x.back();
        });
        for (int limit : limits) {
            empty.unchanged(DUE, "search(" + limit + ")", -1, x -> x.search(limit));
        }
    }

    private static void checksInsideSearch() {
        DUE.by("checks (check, and flip, counted also inside search)");
        PathSolver x = new PathSolver();
        onlyAt(x, 0);
        DUE.is("search(16)", x.search(16), 0);
        DUE.is("FEASIBLE ones", x.count(4), 1);
        DUE.is("others", x.count(5), 15);
        DUE.is("search(0)", x.search(0), -1);
        DUE.is("no more of them", x.count(4) + x.count(5), 16);
        DUE.is("search(1)", x.search(1), 0);
        DUE.is("FEASIBLE ones", x.count(4), 2);
        DUE.is("others", x.count(5), 15);
    }
}
