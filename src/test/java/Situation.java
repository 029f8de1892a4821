import java.util.ArrayList;
import java.util.List;

/** An object as it stands after some calls, made anew as often as it is wanted. */
final class Situation {
    interface Calls {
        void on(PathSolver x);
    }

    interface Call {
        long on(PathSolver x);
    }

    final String name;
    private final Calls before;
    private final List<List<Long>> portrait = new ArrayList<>();

    Situation(String name, Calls before) {
        this.name = name;
        this.before = before;
        for (int part = 0; part < Portrait.PARTS; part++) {
            portrait.add(Portrait.of(make(), part));
        }
    }

    PathSolver make() {
        PathSolver x = new PathSolver();
        on(x);
        return x;
    }

    /** Brings a new object into this situation. */
    void on(PathSolver x) {
        before.on(x);
    }

    void gives(Due due, String text, long want, Call call) {
        due.is(text + " " + name, call.on(make()), want);
    }

    /** The call answers what is due, and behind it everything is as without it. */
    void unchanged(Due due, String text, long want, Call call) {
        for (int part = 0; part < Portrait.PARTS; part++) {
            PathSolver x = make();
            due.is(text + " " + name, call.on(x), want);
            due.holds("nothing is changed by " + text + " " + name,
                Portrait.of(x, part).equals(portrait.get(part)));
        }
    }

    /** Objects of all kinds: with nothing in them, with something, and with all that goes in. */
    static List<Situation> all() {
        return List.of(
            new Situation("on a new object", x -> { }),
            new Situation("with a path and no model", Situation::path),
            new Situation("with a path and a model", Situation::model),
            new Situation("with a path that is not FEASIBLE", Situation::neverTaken),
            fullOfTerms(), fullOfCost(), fullPath(), fourVariables(), tenBits());
    }

    static Situation fullOfTerms() {
        return new Situation("with 64 terms", x -> {
            model(x);
            for (int i = x.count(0); i < 64; i++) {
                x.constant(32, i);
            }
        });
    }

    static Situation fullOfCost() {
        return new Situation("with a cost of 400", x -> {
            model(x);
            x.term(8, 0, 1, 0);
            x.term(9, 0, 1, 0);
            x.term(8, 1, 0, 0);
            x.term(10, 0, 1, 0);
            x.term(5, 0, 1, 0);
            x.term(2, 4, 6, 0);
            x.term(3, 4, 6, 0);
            x.term(5, 4, 6, 0);
        });
    }

    static Situation fullPath() {
        return new Situation("with 16 conditions", x -> {
            model(x);
            for (int i = 3; i < 16; i++) {
                x.take(i % 2 == 0 ? 5 : 6);
            }
            x.flip(2);
        });
    }

    static Situation fourVariables() {
        return new Situation("with four variables", x -> {
            model(x);
            x.variable(1, true);
        });
    }

    static Situation tenBits() {
        return new Situation("with ten bits", x -> {
            x.variable(8, true);
            x.variable(2, false);
            x.take(x.term(14, 1, 0, 0));
            x.check();
        });
    }

    /**
     * Two variables of 7 bits, and the path of 4: the entry at v is 77 (v is 2), 5: w is below v,
     * 6: w is odd. 13 terms are there, of all widths, and their cost is 65.
     */
    static void path(PathSolver x) {
        x.variable(3, false);
        x.variable(4, true);
        x.entry(0, 2, 77);
        x.entry(1, 7, -3);
        x.term(20, 0, 0, 0);
        x.constant(8, 77);
        x.term(13, 2, 3, 0);
        x.term(15, 1, 0, 0);
        x.term(19, 1, 1, 0);
        x.term(16, 6, 0, 1);
        x.term(17, 0, 16, 0);
        x.term(18, 1, 32, 0);
        x.term(17, 2, 64, 0);
        x.constant(8, 0);
        x.term(4, 4, 6, 0);
        x.take(4);
        x.take(5);
        x.take(6);
    }

    /** The same with a model, and one variable more that was made later. */
    static void model(PathSolver x) {
        path(x);
        x.check();
        x.variable(1, false);
    }

    /** So many terms that are constants of width 16, and a model. */
    static void constants(PathSolver x, int count) {
        for (int i = 0; i < count; i++) {
            x.constant(16, i);
        }
        x.check();
    }

    private static void neverTaken(PathSolver x) {
        model(x);
        x.take(x.constant(1, 0));
        x.check();
    }
}
