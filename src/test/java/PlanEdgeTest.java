/** The edges of promises 10, 11 and 17, and of the terms job, plan and moves. */
public final class PlanEdgeTest {
    private static final Due DUE = new Due();

    public static void main(String[] args) {
        theLeastPlan();
        fromHomeEachTime();
        fromTheWholeBar();
        asLongAsItCoversStock();
        leastZ();
        leastR();
        leastDirection();
        oneMoveOrTwo();
        changesHaveNoSteps();
        theChangesAlone();
        thePlanBeforeIsGone();
        noInsertInTheJob();
        oneWithoutSpots();
        farFromTwoThousandMoves();
        moveRange();
        moveWhatRange();
        moveOfTheTrial();
        leftOfNoPlan();
        leftOfAllOrNothing();
        leftCountsWhatIsNotToStay();
        leftOfThePlanNotTheTrial();
        DUE.end();
    }

    /** The least bar and the least insert: what must be cut is cut by one step. */
    private static void theLeastPlan() {
        moves(oneSpot(1, 1, 12), new int[][] {{2, 0, 0}, {0, 0, 4}, {0, 2, 14}, {1, 2, 1}});
    }

    /** "for each insert of the row, which begins at home" */
    private static void fromHomeEachTime() {
        Counted x = new Counted();
        x.bar(3, 1, 12);
        x.spot(0, 0, 2);
        x.spot(1, 0, 1);
        x.spot(2, 0, 0);
        for (int insert = 0; insert < 3; insert++) {
            x.choose(insert);
        }
        moves(x, new int[][] {
            {2, 0, 0}, {0, 0, 4}, {0, 2, 14}, {1, 2, 1},
            {2, 0, 0}, {0, 0, 4}, {0, 2, 14}, {1, 2, 1},
            {2, 0, 0}, {0, 0, 4}, {0, 2, 14}, {1, 2, 1}});
        DUE.is("left()", x.left(), 0);
    }

    /** "the stock is the whole bar": whatever was cut by a plan or a simulate() before. */
    private static void fromTheWholeBar() {
        Counted x = oneSpot(2, 2, 12);
        int[][] due = {{2, 0, 0}, {0, 0, 4}, {0, 2, 13}, {1, 2, 2}, {1, 0, 1}, {1, 3, 1}};
        moves(x, due);
        DUE.is("simulate(6)", x.simulate(6), 4);
        moves(x, due);
        DUE.is("simulate(6) again", x.simulate(6), 4);
    }

    /** "as long as it covers stock at some position in its reach": what it cannot come to stays, and is no step. */
    private static void asLongAsItCoversStock() {
        // Two wide over a groove that is one wide: the groove's three cells stay.
        Counted x = new Counted();
        x.bar(4, 3, 12);
        x.profile(0, 3);
        x.profile(2, 3);
        x.spot(0, 0, 0);
        x.spot(0, 1, 0);
        x.choose(0);
        moves(x, new int[][] {{2, 0, 0}, {0, 0, 3}, {0, 2, 11}, {1, 2, 1}, {1, 0, 2}});
        DUE.is("left()", x.left(), 3);
        DUE.is("just over the groove", x.reach(0, 1, 3), true);
        DUE.is("in the groove", x.reach(0, 1, 2), false);
    }

    /** "of such positions to the one with the least z": down, which is less z than to the right. */
    private static void leastZ() {
        moves(oneSpot(2, 2, 12), new int[][] {{2, 0, 0}, {0, 0, 4}, {0, 2, 13}, {1, 2, 2}, {1, 0, 1}, {1, 3, 1}});
    }

    /** "of these with the least r": in the second column there is stock one step below and one step above. */
    private static void leastR() {
        Counted x = oneSpot(3, 2, 12);
        x.profile(0, 1);
        moves(x, new int[][] {
            {2, 0, 0}, {0, 0, 4}, {0, 2, 12}, {1, 2, 2}, {1, 0, 1}, {1, 2, 1}, {0, 3, 1}, {1, 3, 1}});
    }

    /**
     * "of the shortest ways to that the one with the least direction where they differ first". Two shortest ways can
     * part with z more or less on the one side and r less or more on the other. No calls make them part with z more
     * against z less, or r less against r more: the way up from a position is always safe, so that no way to the
     * nearest stock need first go away from it.
     */
    private static void leastDirection() {
        // 0 against 2: from home.
        moves(oneSpot(1, 1, 12), new int[][] {{2, 0, 0}, {0, 0, 4}, {0, 2, 14}, {1, 2, 1}});
        // 0 against 3: from -2, 0 to 2, 1; the profile keeps it from going all the way at r 0.
        Counted x = new Counted();
        x.bar(3, 1, 12);
        x.profile(0, 1);
        x.spot(0, 2, 2);
        x.spot(0, -2, 0);
        x.choose(0);
        moves(x, new int[][] {{2, 0, 0}, {0, 0, 2}, {0, 2, 14}, {1, 2, 1}, {0, 0, 3}, {0, 3, 1}, {1, 0, 1}});
        // 1 against 2: from 2, 4 to 0, 0.
        Counted y = new Counted();
        y.bar(8, 2, 12);
        y.profile(1, 6);
        y.spot(0, -1, 2);
        y.spot(0, 0, 3);
        y.spot(0, -2, 0);
        y.choose(0);
        moves(y, new int[][] {{2, 0, 0}, {0, 0, 6}, {0, 2, 7}, {1, 2, 4}, {0, 1, 2}, {0, 2, 3}, {1, 2, 1}});
        DUE.is("left()", y.left(), 3);
        // 1 against 3: from 1, 0 to 0, 3.
        Counted z = new Counted();
        z.bar(5, 2, 12);
        z.profile(0, 2);
        z.spot(0, 0, 4);
        z.spot(0, 1, 0);
        z.choose(0);
        moves(z, new int[][] {
            {2, 0, 0}, {0, 0, 3}, {0, 2, 10}, {1, 2, 3}, {1, 0, 1}, {1, 2, 2}, {1, 0, 1}, {0, 1, 1}, {0, 3, 2},
            {1, 3, 1}});
    }

    /** "steps of the same direction and kind that follow one another are one move": both must be the same. */
    private static void oneMoveOrTwo() {
        // The same direction, rapid and feed: two moves. The same kind, down and then right: two moves.
        moves(oneSpot(3, 2, 12), new int[][] {{2, 0, 0}, {0, 0, 4}, {0, 2, 12}, {1, 2, 3}, {1, 0, 1}, {1, 3, 2}});
        // A change between two like steps keeps them two moves.
        Counted x = oneSpot(1, 1, 12);
        x.choose(0);
        x.choose(0);
        moves(x, new int[][] {{2, 0, 0}, {0, 0, 4}, {0, 2, 14}, {1, 2, 1}, {2, 0, 0}, {2, 0, 0}});
    }

    /** "2 CHANGE ... (also the first one; no steps)" */
    private static void changesHaveNoSteps() {
        Counted x = oneSpot(1, 1, 12);
        x.choose(0);
        DUE.is("plan()", x.plan(), 5);
        for (int i = 0; i <= 4; i += 4) {
            DUE.is("kind of move " + i, x.move(i, 0), 2);
            DUE.is("direction of move " + i, x.move(i, 1), 0);
            DUE.is("steps of move " + i, x.move(i, 2), 0);
        }
    }

    /** Promise 10: "with nothing to be cut it has the changes alone" */
    private static void theChangesAlone() {
        for (int many = 1; many <= 3; many++) {
            Counted inTheChuck = new Counted();
            inTheChuck.bar(8, 12, 0);
            changesAlone("all in the chuck", inTheChuck, many, 96);
            Counted toStay = new Counted();
            toStay.bar(3, 1, 12);
            toStay.profile(0, 3);
            changesAlone("all to stay", toStay, many, 0);
            Counted more = new Counted();
            more.bar(3, 1, 12);
            more.profile(0, 8);
            changesAlone("more than all to stay", more, many, 0);
        }
        // Just one cell that is not to stay, or not in the chuck, makes steps.
        Counted x = oneSpot(3, 1, 12);
        x.profile(0, 2);
        moves(x, new int[][] {{2, 0, 0}, {0, 0, 4}, {0, 2, 12}, {1, 2, 1}});
        moves(oneSpot(1, 12, 1), new int[][] {{2, 0, 0}, {0, 0, 4}, {0, 2, 14}, {1, 2, 1}});
        tooFarOut();
    }

    // Its spots are so far out that it comes to no cell of a thin bar.
    private static void tooFarOut() {
        Counted x = new Counted();
        x.bar(4, 12, 12);
        x.spot(0, 2, 4);
        x.choose(0);
        moves(x, new int[][] {{2, 0, 0}});
        DUE.is("left()", x.left(), 48);
        x.bar(5, 1, 12);
        moves(x, new int[][] {{2, 0, 0}, {0, 0, 2}, {0, 2, 14}, {1, 2, 1}});
        DUE.is("left() of the thicker one", x.left(), 4);
    }

    private static void changesAlone(String name, Counted x, int many, int left) {
        x.spot(0, 0, 0);
        for (int i = 0; i < many; i++) {
            x.choose(0);
        }
        DUE.is(name + ": plan()", x.plan(), many);
        for (int i = 0; i < many; i++) {
            DUE.is(name + ": kind", x.move(i, 0), 2);
        }
        DUE.is(name + ": no more moves", x.move(many, 0), TurnedBar.NONE);
        DUE.is(name + ": steps(0)", x.steps(0), 0);
        DUE.is(name + ": steps(1)", x.steps(1), 0);
        DUE.is(name + ": simulate(9)", x.simulate(9), 0);
        DUE.is(name + ": fault()", x.fault(), TurnedBar.NONE);
        DUE.is(name + ": left()", x.left(), left);
    }

    /**
     * Promise 10: "a trial, and the plan before, are gone whatever is answered". That NONE takes a plan away cannot be
     * seen: what makes plan() answer NONE, restart() or clear(), has taken it away already.
     */
    private static void thePlanBeforeIsGone() {
        Counted x = oneSpot(2, 1, 12);
        x.plan();
        x.edit(0, 0, 0, 1);
        x.edit(3, 2, 0, 0);
        x.simulate(4);
        DUE.is("plan() again", x.plan(), 4);
        DUE.is("the trial is gone: fault()", x.fault(), TurnedBar.NONE);
        DUE.is("the trial is gone: undo()", x.undo(), 0);
        DUE.is("the trial is gone: move(0, 0)", x.move(0, 0), 2);
        DUE.is("simulate(4)", x.simulate(4), 2);
        DUE.is("plan() once more", x.plan(), 4);
        DUE.is("no simulate() since: stock(0, 0)", x.stock(0, 0), true);
        x.restart();
        DUE.is("plan() without a job", x.plan(), TurnedBar.NONE);
        DUE.is("no plan: left()", x.left(), TurnedBar.NONE);
        DUE.is("no plan: move(0, 0)", x.move(0, 0), TurnedBar.NONE);
        DUE.is("no plan: simulate(1)", x.simulate(1), TurnedBar.NONE);
        x.choose(0);
        DUE.is("plan() with a job again", x.plan(), 4);
        DUE.is("left()", x.left(), 0);
        // A shorter plan behind a longer one keeps nothing of it.
        x.bar(2, 1, 0);
        moves(x, new int[][] {{2, 0, 0}});
        DUE.is("steps(0) of the shorter one", x.steps(0), 0);
        DUE.is("steps(1) of the shorter one", x.steps(1), 0);
        DUE.is("simulate(9) of the shorter one", x.simulate(9), 0);
        DUE.is("undo() of the shorter one", x.undo(), 0);
    }

    /** Promise 10: "NONE when the job has no insert" */
    private static void noInsertInTheJob() {
        Counted x = new Counted();
        x.spot(0, 0, 0);
        DUE.is("none yet", x.plan(), TurnedBar.NONE);
        x.choose(0);
        DUE.is("one", x.plan(), 4);
        x.restart();
        DUE.is("none any more", x.plan(), TurnedBar.NONE);
        DUE.is("again", x.plan(), TurnedBar.NONE);
    }

    /** Promise 10: NONE when the job has "one without spots": as first, second or third of the row. */
    private static void oneWithoutSpots() {
        for (int cleared = 0; cleared < 3; cleared++) {
            for (int many = cleared + 1; many <= 3; many++) {
                Counted x = new Counted();
                x.bar(3, 3, 12);
                for (int insert = 0; insert < 3; insert++) {
                    x.spot(insert, 0, 0);
                }
                for (int i = 0; i < many; i++) {
                    x.choose(i);
                }
                String row = "insert " + cleared + " of a row of " + many;
                DUE.is(row + ": plan()", x.plan() > many, true);
                x.clear(cleared);
                DUE.is(row + " cleared: plan()", x.plan(), TurnedBar.NONE);
                DUE.is(row + " cleared: left()", x.left(), TurnedBar.NONE);
                x.spot(cleared, 0, 0);
                DUE.is(row + " with a spot again: plan()", x.plan() > many, true);
            }
        }
        // One that is not in the row needs none.
        DUE.is("the others have none", oneSpot(1, 1, 12).plan(), 4);
    }

    /**
     * Promise 10: "or it would have more than 2000 moves". No calls come to that. For one insert, the safe positions
     * that cover stock are in 12 columns (with m for its greatest dz: z from -m to 11 - m) at r 0 .. 7, and from one to
     * another it is never more than 27 steps (up to r 8, where no profile is, 11 aside, and down). A way of L steps or
     * more begins L steps or more away from where each later one begins, for there was stock still; in one column that
     * makes (8 + L - 1) / L of them at most. Each way cuts a cell, so there are 96 at most. For three inserts, the
     * number of ways of L steps or more, summed up over L from 1 to 27, is thus 3 * 96 + 4 * 72 + 20 * 36 = 1296 steps
     * at most; the three ways from home have 32 at most each; with three changes that is less than 1400 moves.
     * The longest one that was met by trying had 83 moves. Here a long one is compared with that of the slow model.
     */
    private static void farFromTwoThousandMoves() {
        Counted x = new Counted();
        Model model = new Model();
        x.bar(8, 12, 12);
        model.bar(8, 12, 12);
        for (int z = 1; z <= 11; z += 2) {
            x.profile(z, 7);
            model.profile(z, 7);
        }
        for (int insert = 0; insert < 3; insert++) {
            x.spot(insert, 0, 4 - 2 * insert);
            model.spot(insert, 0, 4 - 2 * insert);
            x.choose(insert);
            model.choose(insert);
        }
        int many = model.plan();
        DUE.is("plan()", x.plan(), many);
        for (int i = 0; i <= many; i++) {
            for (int what = 0; what <= 2; what++) {
                DUE.is(Ints.call("move", i, what), x.move(i, what), model.move(i, what));
            }
        }
        DUE.is("fault()", x.fault(), TurnedBar.NONE);
        DUE.is("left()", x.left(), 0);
    }

    /** Promise 11: "NONE when there is no such move": from 0 to one less than plan() answered. */
    private static void moveRange() {
        Counted x = oneSpot(2, 2, 12);
        DUE.is("plan()", x.plan(), 6);
        for (int what = 0; what <= 2; what++) {
            for (int i = 0; i < 6; i++) {
                DUE.is(Ints.call("move", i, what) + " is one", x.move(i, what) != TurnedBar.NONE, true);
            }
            for (int far : Ints.beyond(0, 5)) {
                DUE.is(Ints.call("move", far, what), x.move(far, what), TurnedBar.NONE);
            }
        }
        DUE.is("move(1999, 0)", x.move(1999, 0), TurnedBar.NONE);
        DUE.is("move(2000, 0)", x.move(2000, 0), TurnedBar.NONE);
    }

    /** Promise 11: NONE when there is no such "what": also for a change. */
    private static void moveWhatRange() {
        Counted x = oneSpot(2, 2, 12);
        x.plan();
        for (int far : Ints.beyond(0, 2)) {
            DUE.is(Ints.call("move", 0, far), x.move(0, far), TurnedBar.NONE);
            DUE.is(Ints.call("move", 3, far), x.move(3, far), TurnedBar.NONE);
        }
    }

    /** Promise 11: "of the trial, that is, of the plan as it was changed"; "0 for a change". */
    private static void moveOfTheTrial() {
        Counted x = oneSpot(2, 1, 12);
        moves(x, new int[][] {{2, 0, 0}, {0, 0, 4}, {0, 2, 13}, {1, 2, 2}});
        x.edit(3, 0, 3, 40);
        theseMoves(x, new int[][] {{2, 0, 0}, {0, 0, 4}, {0, 2, 13}, {0, 3, 40}});
        x.edit(3, 2, 3, 40);
        theseMoves(x, new int[][] {{2, 0, 0}, {0, 0, 4}, {0, 2, 13}, {2, 0, 0}});
        x.edit(0, 1, 1, 1);
        theseMoves(x, new int[][] {{1, 1, 1}, {0, 0, 4}, {0, 2, 13}, {2, 0, 0}});
        x.undo();
        theseMoves(x, new int[][] {{2, 0, 0}, {0, 0, 4}, {0, 2, 13}, {1, 2, 2}});
    }

    /** Promise 17: "NONE when there is no plan" */
    private static void leftOfNoPlan() {
        Counted x = oneSpot(2, 1, 12);
        DUE.is("none yet", x.left(), TurnedBar.NONE);
        x.plan();
        DUE.is("a plan", x.left(), 0);
        x.profile(0, 0);
        DUE.is("it is gone", x.left(), TurnedBar.NONE);
        x.restart();
        x.plan();
        DUE.is("plan() answered NONE", x.left(), TurnedBar.NONE);
    }

    /** Promise 17 from nothing to the whole bar: as many as the chuck holds. */
    private static void leftOfAllOrNothing() {
        for (int chuck = 0; chuck <= 12; chuck++) {
            Counted x = oneSpot(8, 12, chuck);
            x.plan();
            DUE.is("chuck " + chuck + ": left()", x.left(), 8 * (12 - chuck));
            DUE.is("chuck " + chuck + ": simulate(2000)", x.simulate(2000), 8 * chuck);
        }
    }

    /** Promise 17: "of the bar's cells that are not to stay": neither what stays nor what was never of the bar. */
    private static void leftCountsWhatIsNotToStay() {
        Counted x = new Counted();
        x.bar(3, 2, 0);
        x.spot(0, 0, 0);
        x.choose(0);
        for (int radius = 0; radius <= 8; radius++) {
            x.profile(1, radius);
            x.plan();
            DUE.is("profile " + radius + ": left()", x.left(), 3 + Math.max(0, 3 - radius));
        }
        x.profile(2, 0);
        x.plan();
        DUE.is("beyond the bar is none: left()", x.left(), 3);
    }

    /** Promise 17: "behind the whole plan (not the trial)" */
    private static void leftOfThePlanNotTheTrial() {
        Counted x = oneSpot(2, 3, 2);
        DUE.is("plan()", x.plan(), 6);
        DUE.is("left()", x.left(), 2);
        for (int i = 0; i < 6; i++) {
            x.edit(i, 2, 0, 0);
            DUE.is("edited: left()", x.left(), 2);
        }
        DUE.is("simulate(6)", x.simulate(6), 0);
        DUE.is("behind simulate(6): left()", x.left(), 2);
        DUE.is("simulate(0)", x.simulate(0), 0);
        DUE.is("behind simulate(0): left()", x.left(), 2);
        x.fault();
        DUE.is("behind fault(): left()", x.left(), 2);
        x.undo();
        DUE.is("behind undo(): left()", x.left(), 2);
    }

    private static Counted oneSpot(int radius, int length, int chuck) {
        Counted x = new Counted();
        x.bar(radius, length, chuck);
        x.spot(0, 0, 0);
        x.choose(0);
        return x;
    }

    private static void moves(Counted x, int[][] due) {
        DUE.is("plan()", x.plan(), due.length);
        theseMoves(x, due);
        DUE.is("fault()", x.fault(), TurnedBar.NONE);
    }

    private static void theseMoves(Counted x, int[][] due) {
        for (int i = 0; i < due.length; i++) {
            for (int what = 0; what <= 2; what++) {
                DUE.is(Ints.call("move", i, what), x.move(i, what), due[i][what]);
            }
        }
        DUE.is(Ints.call("move", due.length, 0), x.move(due.length, 0), TurnedBar.NONE);
    }
}
