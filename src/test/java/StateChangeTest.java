import java.util.List;

/**
 * Section Not promised: "Nothing is promised beyond the answers and state changes described above."
 * Each call that is not refused changes the state that its promise names, and leaves the rest.
 */
public final class StateChangeTest {
    /** What comes first in a portrait's part 0: the counts, the model, and what follows answers. */
    private static final int COUNTS = 6;
    private static final int MODEL_END = 10;
    private static final int TERMS_FROM = 11;

    private static final Due DUE = new Due();
    private static final Situation NOW =
        new Situation("with a path and a model", Situation::model);

    public static void main(String[] args) {
        DUE.by("Nothing is promised beyond the answers and state changes described above");
        callsThatMakeTerms();
        callsOfThePath();
        callsThatSetTheModel();
        callsThatOnlyAsk();
        DUE.end();
    }

    private static void callsThatMakeTerms() {
        termsOnly("variable(2, true)", 14, x -> x.variable(2, true), 1, 0, 0, 1, 0, 0);
        termsOnly("constant(8, 5)", 14, x -> x.constant(8, 5), 1, 0, 0, 0, 0, 0);
        termsOnly("constant(8, 77)", 3, x -> x.constant(8, 77), 0, 0, 0, 0, 0, 0);
        termsOnly("term(5, 0, 1, 0)", 14, x -> x.term(5, 0, 1, 0), 1, 8, 0, 0, 0, 0);
        termsOnly("term(0, 4, 0, 0)", 14, x -> x.term(0, 4, 0, 0), 1, 1, 0, 0, 0, 0);
        termsOnly("term(19, 2, 1, 0)", 14, x -> x.term(19, 2, 1, 0), 1, 0, 0, 0, 0, 0);
        termsOnly("term(13, 3, 2, 0)", 4, x -> x.term(13, 3, 2, 0), 0, 0, 0, 0, 0, 0);
        termsOnly("term(6, 0, 0, 0)", 11, x -> x.term(6, 0, 0, 0), 0, 0, 0, 0, 0, 0);
        termsOnly("term(13, 0, 0, 0)", 14, x -> x.term(13, 0, 0, 0), 1, 0, 0, 0, 0, 0);
        // The model has 2 for v: other entries than that one change no value.
        termsOnly("entry(0, 1, 9)", 0, x -> x.entry(0, 1, 9), 0, 0, 0, 0, 0, 0);
        termsOnly("entry(1, 2, 9)", 0, x -> x.entry(1, 2, 9), 0, 0, 0, 0, 0, 0);
    }

    /** The model, the path, and the terms that were there stay. */
    private static void termsOnly(String text, int want, Situation.Call call, int... added) {
        List<Long> after = changes(text, want, call, true, added);
        List<Long> before = Portrait.of(NOW.make(), 0);
        DUE.is("follows() after " + text, after.get(MODEL_END), before.get(MODEL_END));
        DUE.holds("values stay after " + text,
            after.subList(TERMS_FROM, before.size()).equals(part(before, TERMS_FROM)));
        PathSolver x = NOW.make();
        call.on(x);
        PathSolver y = NOW.make();
        for (int k = 0; k < 3; k++) {
            DUE.is("flip(" + k + ") after " + text, x.flip(k), y.flip(k));
            DUE.is("model(0) after " + text, x.model(0), y.model(0));
            DUE.is("model(1) after " + text, x.model(1), y.model(1));
        }
    }

    private static void callsOfThePath() {
        changes("take(12)", 4, x -> x.take(12), true, 0, 0, 1, 0, 0, 0);
        changes("take(4)", 4, x -> x.take(4), true, 0, 0, 1, 0, 0, 0);
        changes("back()", 2, PathSolver::back, true, 0, 0, -1, 0, 0, 0);
        tablesAndRoomStay("take(12)", x -> x.take(12));
        tablesAndRoomStay("back()", PathSolver::back);
    }

    private static void callsThatSetTheModel() {
        changes("check()", 1, PathSolver::check, false, 0, 0, 0, 0, 1, 0);
        changes("flip(0)", 1, x -> x.flip(0), false, 0, 0, 0, 0, 1, 0);
        changes("search(3)", 2, x -> x.search(3), false, 0, 0, 0, 0, 1, 0);
        changes("search(0)", -1, x -> x.search(0), true, 0, 0, 0, 0, 0, 0);
        changes("flip of what can't fail", 0, x -> {
            x.take(4);
            return x.flip(3);
        }, true, 0, 0, 1, 0, 0, 1);
        changes("check of what can't hold", 0, x -> {
            x.take(x.term(0, 4, 0, 0));
            return x.check();
        }, true, 1, 1, 1, 0, 0, 1);
        pathStays("check()", PathSolver::check);
        pathStays("flip(0)", x -> x.flip(0));
        pathStays("flip(2)", x -> x.flip(2));
        pathStays("search(3)", x -> x.search(3));
        tablesAndRoomStay("check()", PathSolver::check);
        tablesAndRoomStay("flip(1)", x -> x.flip(1));
        tablesAndRoomStay("search(1)", x -> x.search(1));
    }

    private static void callsThatOnlyAsk() {
        NOW.unchanged(DUE, "model(0)", 2, x -> x.model(0));
        NOW.unchanged(DUE, "value(2)", 77, x -> x.value(2));
        NOW.unchanged(DUE, "follows()", 3, PathSolver::follows);
        NOW.unchanged(DUE, "width(9)", 32, x -> x.width(9));
        NOW.unchanged(DUE, "operation(2)", 20, x -> x.operation(2));
        NOW.unchanged(DUE, "operand(9, 1)", 32, x -> x.operand(9, 1));
        NOW.unchanged(DUE, "count(4)", 1, x -> x.count(4));
        NOW.unchanged(DUE, "search(-1)", -1, x -> x.search(-1));
    }

    /** The counts grow by what is given, and the facts of the terms that were there stay. */
    private static List<Long> changes(String text, int want, Situation.Call call,
            boolean modelStays, int... added) {
        List<Long> before = Portrait.of(NOW.make(), 0);
        PathSolver x = NOW.make();
        DUE.is(text, call.on(x), want);
        List<Long> after = Portrait.of(x, 0);
        for (int what = 0; what < COUNTS; what++) {
            DUE.is("count(" + what + ") after " + text, after.get(what),
                before.get(what) + added[what]);
        }
        if (modelStays) {
            DUE.holds("the model stays after " + text, after.subList(COUNTS, MODEL_END)
                .equals(before.subList(COUNTS, MODEL_END)));
        }
        for (int i = TERMS_FROM; i < before.size(); i++) {
            boolean isValue = (i - TERMS_FROM) % 6 == 5;
            if (!isValue || modelStays) {
                DUE.is("answer " + i + " after " + text, after.get(i), before.get(i));
            }
        }
        return after;
    }

    private static void pathStays(String text, Situation.Call call) {
        List<Long> before = Portrait.of(NOW.make(), 1);
        PathSolver x = NOW.make();
        call.on(x);
        List<Long> after = Portrait.of(x, 1);
        DUE.holds("the path stays after " + text,
            withoutCounts(after).equals(withoutCounts(before)));
    }

    private static void tablesAndRoomStay(String text, Situation.Call call) {
        List<Long> before = Portrait.of(NOW.make(), 2);
        PathSolver x = NOW.make();
        call.on(x);
        List<Long> after = Portrait.of(x, 2);
        DUE.holds("the tables and the room stay after " + text,
            part(withoutCounts(after), 1).equals(part(withoutCounts(before), 1)));
    }

    private static List<Long> withoutCounts(List<Long> portrait) {
        return portrait.subList(0, portrait.size() - COUNTS);
    }

    private static List<Long> part(List<Long> portrait, int from) {
        return portrait.subList(from, portrait.size());
    }
}
