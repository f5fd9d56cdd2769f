import java.util.ArrayList;
import java.util.List;

/** A TurnedBar that keeps what was answered, and sees to it that a test makes no more calls than are promised. */
final class Counted {
    private static final int MOST_CALLS = 512;

    private final TurnedBar x = new TurnedBar();
    private final List<String> answers = new ArrayList<>();

    int calls() {
        return answers.size();
    }

    /** Each call from the one of that number on, with what it answered. */
    List<String> answersFrom(int first) {
        return answers.subList(first, answers.size());
    }

    boolean bar(int radius, int length, int chuck) {
        return kept(x.bar(radius, length, chuck), "bar", radius, length, chuck);
    }

    boolean profile(int z, int r) {
        return kept(x.profile(z, r), "profile", z, r);
    }

    boolean spot(int insert, int dz, int dr) {
        return kept(x.spot(insert, dz, dr), "spot", insert, dz, dr);
    }

    int clear(int insert) {
        return kept(x.clear(insert), "clear", insert);
    }

    int choose(int insert) {
        return kept(x.choose(insert), "choose", insert);
    }

    int restart() {
        return kept(x.restart(), "restart");
    }

    boolean at(int insert, int z, int r, int what) {
        return kept(x.at(insert, z, r, what), "at", insert, z, r, what);
    }

    boolean reach(int insert, int z, int r) {
        return kept(x.reach(insert, z, r), "reach", insert, z, r);
    }

    int plan() {
        return kept(x.plan(), "plan");
    }

    int move(int i, int what) {
        return kept(x.move(i, what), "move", i, what);
    }

    boolean edit(int i, int kind, int direction, int steps) {
        return kept(x.edit(i, kind, direction, steps), "edit", i, kind, direction, steps);
    }

    int undo() {
        return kept(x.undo(), "undo");
    }

    int simulate(int n) {
        return kept(x.simulate(n), "simulate", n);
    }

    boolean stock(int z, int r) {
        return kept(x.stock(z, r), "stock", z, r);
    }

    int fault() {
        return kept(x.fault(), "fault");
    }

    int left() {
        return kept(x.left(), "left");
    }

    int steps(int kind) {
        return kept(x.steps(kind), "steps", kind);
    }

    private boolean kept(boolean answer, String name, int... arguments) {
        return kept(answer ? 1 : 0, name, arguments) == 1;
    }

    private int kept(int answer, String name, int... arguments) {
        if (answers.size() == MOST_CALLS) {
            throw new IllegalStateException("a test makes more than " + MOST_CALLS + " calls on one object");
        }
        answers.add(Ints.call(name, arguments) + " answered " + answer);
        return answer;
    }
}
