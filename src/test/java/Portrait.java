import java.util.ArrayList;
import java.util.List;

/**
 * All that an object answers, so that two objects can be compared. It is asked in three parts, each
 * of another object that got the same calls before: more than 512 calls of one are too many, and
 * the later parts change what they ask.
 */
final class Portrait {
    static final int PARTS = 3;

    private static final int MOST_TERMS = 64;

    private final PathSolver x;
    private final List<Long> answers = new ArrayList<>();

    private Portrait(PathSolver x) {
        this.x = x;
    }

    static List<Long> of(PathSolver x, int part) {
        Portrait portrait = new Portrait(x);
        switch (part) {
            case 0: portrait.facts(); break;
            case 1: portrait.path(); break;
            default: portrait.room(); break;
        }
        return portrait.answers;
    }

    /** The counts, the model, and every term. */
    private void facts() {
        counts();
        model();
        answers.add((long) x.follows());
        int terms = Math.min(MOST_TERMS, x.count(0));
        for (int term = 0; term < terms; term++) {
            answers.add((long) x.width(term));
            answers.add((long) x.operation(term));
            for (int i = 0; i < 3; i++) {
                answers.add((long) x.operand(term, i));
            }
            answers.add(x.value(term));
        }
    }

    /** Which conditions are on the path, and in which places. */
    private void path() {
        int length = x.count(2);
        for (int k = 0; k < length; k++) {
            answers.add((long) x.flip(k));
            model();
        }
        answers.add((long) x.search(length));
        model();
        for (int k = 0; k <= length; k++) {
            answers.add((long) x.check());
            model();
            answers.add((long) x.back());
        }
        counts();
    }

    /** The tables, and how many more variables, bits and terms there may be. */
    private void room() {
        answers.add((long) x.check());
        for (int i = 0; i < 8; i++) {
            int place = x.constant(8, i);
            for (int t = 0; t < 2; t++) {
                answers.add(x.value(x.term(20, place, t, 0)));
            }
        }
        for (int bits = 8; bits >= 1; bits--) {
            answers.add((long) x.variable(bits, true));
        }
        for (int i = 0; i <= MOST_TERMS; i++) {
            answers.add((long) x.constant(64, 1000 + i));
        }
        counts();
    }

    private void counts() {
        for (int what = 0; what < 6; what++) {
            answers.add((long) x.count(what));
        }
    }

    private void model() {
        for (int v = 0; v < 4; v++) {
            answers.add((long) x.model(v));
        }
    }
}
