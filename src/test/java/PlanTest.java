/** Promises 10, 11 and 17: plan, move, left. */
public final class PlanTest {
    private static final Due DUE = new Due();

    public static void main(String[] args) {
        oneColumn();
        leastZ();
        leastR();
        severalCellsAtOnce();
        severalInserts();
        spotsAside();
        theWholeBar();
        nothingToCut();
        noPlan();
        plannedAnew();
        left();
        DUE.end();
    }

    private static TurnedBar with(int radius, int length, int chuck) {
        TurnedBar x = new TurnedBar();
        x.bar(radius, length, chuck);
        x.spot(0, 0, 0);
        x.choose(0);
        return x;
    }

    private static void oneColumn() {
        TurnedBar x = with(2, 1, 12);
        DUE.is("plan()", x.plan(), 4);
        DUE.move(x, 0, 2, 0, 0);
        DUE.move(x, 1, 0, 0, 4);
        DUE.move(x, 2, 0, 2, 13);
        DUE.move(x, 3, 1, 2, 2);
        DUE.is("move(4, 0)", x.move(4, 0), TurnedBar.NONE);
        DUE.is("move(-1, 0)", x.move(-1, 0), TurnedBar.NONE);
        DUE.is("move(0, 3)", x.move(0, 3), TurnedBar.NONE);
        DUE.is("move(0, -1)", x.move(0, -1), TurnedBar.NONE);
        DUE.is("move(2000, 0)", x.move(2000, 0), TurnedBar.NONE);
        DUE.is("left()", x.left(), 0);
    }

    // Behind the first cell there is one to the right and one below: both are one step away.
    private static void leastZ() {
        TurnedBar x = with(2, 2, 12);
        DUE.is("plan()", x.plan(), 6);
        DUE.move(x, 3, 1, 2, 2);
        DUE.move(x, 4, 1, 0, 1);
        DUE.move(x, 5, 1, 3, 1);
    }

    // It comes into the second column at its middle, with stock above and below.
    private static void leastR() {
        TurnedBar x = with(3, 2, 12);
        x.profile(0, 1);
        DUE.is("plan()", x.plan(), 8);
        DUE.move(x, 2, 0, 2, 12);
        DUE.move(x, 3, 1, 2, 2);
        DUE.move(x, 4, 1, 0, 1);
        DUE.move(x, 5, 1, 2, 1);
        DUE.move(x, 6, 0, 3, 1);
        DUE.move(x, 7, 1, 3, 1);
        DUE.is("left()", x.left(), 0);
    }

    private static void severalCellsAtOnce() {
        TurnedBar x = new TurnedBar();
        x.bar(1, 4, 12);
        x.spot(1, -1, 0);
        x.spot(1, 1, 0);
        x.choose(1);
        // It covers 0 from -1, 0 already; each step to the right then covers the next cell.
        DUE.is("plan()", x.plan(), 5);
        DUE.move(x, 1, 0, 0, 3);
        DUE.move(x, 2, 0, 2, 14);
        DUE.move(x, 3, 1, 2, 1);
        DUE.move(x, 4, 1, 0, 3);
        TurnedBar y = new TurnedBar();
        y.bar(2, 2, 12);
        y.spot(0, 0, 0);
        y.spot(0, 0, 1);
        y.choose(0);
        // The last step cuts both cells of the second column.
        DUE.is("plan()", y.plan(), 5);
        DUE.move(y, 3, 1, 2, 2);
        DUE.move(y, 4, 1, 0, 1);
        DUE.is("left()", y.left(), 0);
        DUE.is("simulate(4)", y.simulate(4), 2);
        DUE.is("simulate(5)", y.simulate(5), 4);
    }

    private static void severalInserts() {
        TurnedBar x = with(1, 1, 12);
        x.spot(2, 0, 0);
        x.spot(2, 0, 1);
        x.choose(2);
        x.choose(0);
        DUE.is("plan()", x.plan(), 6);
        DUE.move(x, 0, 2, 0, 0);
        DUE.move(x, 3, 1, 2, 1);
        DUE.move(x, 4, 2, 0, 0);
        DUE.move(x, 5, 2, 0, 0);
        // The second one cuts what the first one, which reaches less far in, has left.
        TurnedBar y = new TurnedBar();
        y.bar(2, 1, 12);
        y.spot(0, 0, 1);
        y.spot(1, 0, 0);
        y.choose(0);
        y.choose(1);
        DUE.is("two inserts", y.plan(), 8);
        DUE.move(y, 2, 0, 2, 14);
        DUE.move(y, 3, 1, 2, 1);
        DUE.move(y, 4, 2, 0, 0);
        DUE.move(y, 5, 0, 0, 4);
        DUE.move(y, 6, 0, 2, 14);
        DUE.move(y, 7, 1, 2, 1);
        DUE.is("left()", y.left(), 0);
    }

    // It cuts with its nearer spot alone: the farther one, which is outside of the bar, meets the chuck first.
    private static void spotsAside() {
        TurnedBar x = new TurnedBar();
        x.bar(1, 3, 2);
        x.spot(1, 2, 1);
        x.spot(1, 1, 0);
        x.choose(1);
        DUE.is("plan()", x.plan(), 4);
        DUE.move(x, 1, 0, 0, 3);
        DUE.move(x, 2, 0, 2, 14);
        DUE.move(x, 3, 1, 2, 1);
        DUE.is("left()", x.left(), 2);
        DUE.is("reach(1, 0, 0)", x.reach(1, 0, 0), true);
        DUE.is("reach(1, 1, 0)", x.reach(1, 1, 0), false);
    }

    // As many cuts as there are cells: down the first column, up the second, and so on.
    private static void theWholeBar() {
        TurnedBar x = with(8, 12, 12);
        DUE.is("plan()", x.plan(), 26);
        DUE.move(x, 2, 0, 2, 7);
        DUE.move(x, 3, 1, 2, 8);
        for (int column = 1; column < 12; column++) {
            DUE.move(x, 2 * column + 2, 1, 0, 1);
            DUE.move(x, 2 * column + 3, 1, column % 2 == 1 ? 3 : 2, 7);
        }
        DUE.is("steps(1)", x.steps(1), 96);
        DUE.is("simulate(26)", x.simulate(26), 96);
        DUE.is("left()", x.left(), 0);
    }

    private static void nothingToCut() {
        TurnedBar x = with(3, 4, 0);
        x.choose(0);
        x.choose(0);
        DUE.is("all in the chuck", x.plan(), 3);
        for (int i = 0; i < 3; i++) {
            DUE.move(x, i, 2, 0, 0);
        }
        DUE.is("left() in the chuck", x.left(), 12);
        TurnedBar y = with(2, 1, 12);
        y.profile(0, 8);
        DUE.is("all to stay", y.plan(), 1);
        DUE.is("left() of all to stay", y.left(), 0);
    }

    private static void noPlan() {
        TurnedBar x = new TurnedBar();
        DUE.is("no job", x.plan(), TurnedBar.NONE);
        x = with(2, 1, 12);
        x.spot(1, 0, 0);
        x.choose(1);
        x.clear(1);
        DUE.is("one without spots", x.plan(), TurnedBar.NONE);
        DUE.is("left()", x.left(), TurnedBar.NONE);
        DUE.is("move(0, 0)", x.move(0, 0), TurnedBar.NONE);
        x.spot(1, 1, 0);
        DUE.is("with spots again", x.plan(), 5);
        x.clear(0);
        DUE.is("the first one without spots", x.plan(), TurnedBar.NONE);
        DUE.is("the row stayed", x.restart(), 2);
    }

    private static void plannedAnew() {
        TurnedBar x = with(2, 1, 12);
        x.plan();
        x.edit(1, 1, 3, 7);
        x.simulate(9);
        DUE.is("plan() again", x.plan(), 4);
        DUE.move(x, 1, 0, 0, 4);
        DUE.is("the trial is gone", x.undo(), 0);
        x.simulate(9);
        DUE.is("cut", x.stock(0, 0), false);
        DUE.is("plan() once more", x.plan(), 4);
        DUE.is("as if not simulated", x.stock(0, 0), true);
    }

    private static void left() {
        TurnedBar x = new TurnedBar();
        x.bar(3, 3, 12);
        x.profile(1, 2);
        x.spot(0, 0, 1);
        x.choose(0);
        x.plan();
        // Its spot is never at r 0, where two cells are not to stay.
        DUE.is("left()", x.left(), 2);
        x.edit(0, 0, 0, 1);
        x.simulate(1);
        x.fault();
        DUE.is("of the plan, not of the trial", x.left(), 2);
        x.bar(3, 3, 2);
        x.plan();
        DUE.is("also in the chuck", x.left(), 4);
    }
}
