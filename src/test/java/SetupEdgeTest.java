/** The edges of promises 1 to 7: a new object, bar, profile, spot, clear, choose, restart. */
public final class SetupEdgeTest {
    private static final Due DUE = new Due();

    public static void main(String[] args) {
        newBar();
        newProfileAndInserts();
        newJobAndPlan();
        barRanges();
        barOfBothEnds();
        profileRanges();
        profileSetAgain();
        spotRanges();
        eachSpot();
        spotItHasAlready();
        eightSpots();
        clearAnswers();
        clearRange();
        clearLeavesTheRow();
        chooseRange();
        chooseWithoutSpots();
        threeOfARow();
        restartAnswers();
        planIsGone();
        planIsGoneThoughNothingIsOther();
        planStaysBehindNone();
        DUE.end();
    }

    /** Promise 1: "A bar of radius 1 and length 1, the chuck from 12 on" */
    private static void newBar() {
        Counted x = new Counted();
        for (int z = -1; z <= 12; z++) {
            for (int r = -1; r <= 8; r++) {
                DUE.is("new: " + Ints.call("stock", z, r), x.stock(z, r), z == 0 && r == 0);
            }
        }
        x.spot(0, 0, 0);
        for (int r = 0; r <= 15; r++) {
            DUE.is("new: before the chuck at " + r, x.at(0, 11, r, 0), true);
            DUE.is("new: in the chuck at " + r, x.at(0, 12, r, 0), false);
        }
    }

    /** Promise 1: "profile 0, inserts without spots" */
    private static void newProfileAndInserts() {
        Counted x = new Counted();
        for (int insert = 0; insert < 3; insert++) {
            DUE.is("new: " + Ints.call("clear", insert), x.clear(insert), 0);
            DUE.is("new: " + Ints.call("choose", insert), x.choose(insert), TurnedBar.NONE);
        }
        x.spot(0, 0, 0);
        for (int z = 0; z <= 11; z++) {
            DUE.is("new: profile at " + z, x.at(0, z, 0, 0), true);
        }
        DUE.is("new: the one cell is not to stay", x.at(0, 0, 0, 2), true);
    }

    /** Promise 1: "no job, no plan" */
    private static void newJobAndPlan() {
        Counted x = new Counted();
        noPlan("new", x);
        DUE.is("new: restart()", x.restart(), 0);
        DUE.is("new: plan()", x.plan(), TurnedBar.NONE);
        noPlan("new, behind plan()", x);
        // A spot makes no job.
        x.spot(0, 0, 0);
        DUE.is("new, with a spot: plan()", x.plan(), TurnedBar.NONE);
        DUE.is("new: the first of the row", x.choose(0), 1);
    }

    /** Promise 2: "false when radius is not 1 .. 8, length not 1 .. 12, or chuck not 0 .. 12" */
    private static void barRanges() {
        Counted x = new Counted();
        for (int radius = 1; radius <= 8; radius++) {
            DUE.is(Ints.call("bar", radius, 6, 6), x.bar(radius, 6, 6), true);
        }
        for (int length = 1; length <= 12; length++) {
            DUE.is(Ints.call("bar", 4, length, 6), x.bar(4, length, 6), true);
        }
        for (int chuck = 0; chuck <= 12; chuck++) {
            DUE.is(Ints.call("bar", 4, 6, chuck), x.bar(4, 6, chuck), true);
        }
        for (int far : Ints.beyond(1, 8)) {
            DUE.is(Ints.call("bar", far, 6, 6), x.bar(far, 6, 6), false);
        }
        for (int far : Ints.beyond(1, 12)) {
            DUE.is(Ints.call("bar", 4, far, 6), x.bar(4, far, 6), false);
        }
        for (int far : Ints.beyond(0, 12)) {
            DUE.is(Ints.call("bar", 4, 6, far), x.bar(4, 6, far), false);
        }
    }

    /** Promise 2: all three at their ends, and each one beyond it while the others are in range. */
    private static void barOfBothEnds() {
        Counted x = new Counted();
        DUE.is("bar(1, 1, 0)", x.bar(1, 1, 0), true);
        DUE.is("bar(8, 12, 12)", x.bar(8, 12, 12), true);
        DUE.is("stock(11, 7)", x.stock(11, 7), true);
        DUE.is("bar(0, 1, 0)", x.bar(0, 1, 0), false);
        DUE.is("bar(1, 0, 0)", x.bar(1, 0, 0), false);
        DUE.is("bar(1, 1, -1)", x.bar(1, 1, -1), false);
        DUE.is("bar(9, 12, 12)", x.bar(9, 12, 12), false);
        DUE.is("bar(8, 13, 12)", x.bar(8, 13, 12), false);
        DUE.is("bar(8, 12, 13)", x.bar(8, 12, 13), false);
        DUE.is("bar(MIN, MIN, MIN)", x.bar(Integer.MIN_VALUE, Integer.MIN_VALUE, Integer.MIN_VALUE), false);
        DUE.is("bar(MAX, MAX, MAX)", x.bar(Integer.MAX_VALUE, Integer.MAX_VALUE, Integer.MAX_VALUE), false);
        DUE.is("stock(11, 7) still", x.stock(11, 7), true);
        DUE.is("a chuck before the bar's end", x.bar(8, 12, 3), true);
        DUE.is("a chuck behind the bar's end", x.bar(8, 3, 12), true);
    }

    /** Promise 3: "false when z is not 0 .. 11 or r not 0 .. 8" */
    private static void profileRanges() {
        Counted x = new Counted();
        for (int z = 0; z <= 11; z++) {
            DUE.is(Ints.call("profile", z, 0), x.profile(z, 0), true);
            DUE.is(Ints.call("profile", z, 8), x.profile(z, 8), true);
            DUE.is(Ints.call("profile", z, -1), x.profile(z, -1), false);
            DUE.is(Ints.call("profile", z, 9), x.profile(z, 9), false);
        }
        for (int r = 0; r <= 8; r++) {
            DUE.is(Ints.call("profile", -1, r), x.profile(-1, r), false);
            DUE.is(Ints.call("profile", 12, r), x.profile(12, r), false);
        }
        for (int far : Ints.beyond(0, 11)) {
            DUE.is(Ints.call("profile", far, 4), x.profile(far, 4), false);
        }
        for (int far : Ints.beyond(0, 8)) {
            DUE.is(Ints.call("profile", 4, far), x.profile(4, far), false);
        }
    }

    /** Promise 3: "The profile at z becomes r": also less than it was, down to 0. */
    private static void profileSetAgain() {
        Counted x = new Counted();
        x.spot(0, 0, 0);
        int[] radii = {8, 3, 5, 0, 1, 0};
        for (int radius : radii) {
            DUE.is(Ints.call("profile", 6, radius), x.profile(6, radius), true);
            DUE.is("over " + radius, x.at(0, 6, radius, 0), true);
            DUE.is("below " + radius, x.at(0, 6, radius - 1, 0), false);
        }
    }

    /** Promise 4: "false when there is no such insert or spot" */
    private static void spotRanges() {
        Counted x = new Counted();
        for (int far : Ints.beyond(0, 2)) {
            DUE.is(Ints.call("spot", far, 0, 0), x.spot(far, 0, 0), false);
        }
        for (int far : Ints.beyond(-2, 2)) {
            DUE.is(Ints.call("spot", 1, far, 0), x.spot(1, far, 0), false);
        }
        for (int far : Ints.beyond(0, 4)) {
            DUE.is(Ints.call("spot", 1, 0, far), x.spot(1, 0, far), false);
        }
        for (int insert = 0; insert < 3; insert++) {
            DUE.is("none was taken", x.clear(insert), 0);
        }
    }

    /** "each a dz (-2 .. 2) and a dr (0 .. 4)": all 25 for each insert, and what they cover. */
    private static void eachSpot() {
        for (int insert = 0; insert < 3; insert++) {
            for (int dz = -2; dz <= 2; dz++) {
                for (int dr = 0; dr <= 4; dr++) {
                    Counted x = new Counted();
                    x.bar(8, 12, 12);
                    String spot = Ints.call("spot", insert, dz, dr);
                    DUE.is(spot, x.spot(insert, dz, dr), true);
                    DUE.is(spot + " covers the first cell's outermost", x.at(insert, -dz, 7 - dr, 2), true);
                    DUE.is(spot + " one further out", x.at(insert, -dz, 8 - dr, 2), false);
                    DUE.is(spot + " one before", x.at(insert, -dz - 1, 7 - dr, 2), false);
                    DUE.is(spot + " at the last cell", x.at(insert, 11 - dz, 0, 2), true);
                    DUE.is(spot + " one behind", x.at(insert, 12 - dz, 0, 2), false);
                    DUE.is(spot + " comes as far in as that", x.reach(insert, 5, dr), true);
                    DUE.is(spot + " and no further", dr > 0 && x.reach(insert, 5, dr - 1), false);
                }
            }
        }
    }

    /** Promise 4: false when "it has that already": the same insert, not another one, and not behind a clear(). */
    private static void spotItHasAlready() {
        Counted x = new Counted();
        DUE.is("spot(0, 1, 2)", x.spot(0, 1, 2), true);
        DUE.is("the same", x.spot(0, 1, 2), false);
        DUE.is("the other dz", x.spot(0, -1, 2), true);
        DUE.is("the other dr", x.spot(0, 1, 1), true);
        DUE.is("the first one again", x.spot(0, 1, 2), false);
        DUE.is("the last one again", x.spot(0, 1, 1), false);
        DUE.is("both the other way round", x.spot(0, 2, 1), true);
        DUE.is("for another insert", x.spot(1, 1, 2), true);
        DUE.is("four", x.clear(0), 4);
        DUE.is("behind clear()", x.spot(0, 1, 2), true);
        DUE.is("again", x.spot(0, 1, 2), false);
        DUE.is("the other insert still has it", x.spot(1, 1, 2), false);
        DUE.is("one", x.clear(0), 1);
    }

    /** Promise 4: false when it "has 8": the eighth is taken, the ninth is not, and room comes by clear() alone. */
    private static void eightSpots() {
        Counted x = new Counted();
        for (int insert = 0; insert < 3; insert++) {
            for (int i = 0; i < 8; i++) {
                DUE.is("spot " + i, x.spot(insert, i % 5 - 2, i / 5), true);
            }
            for (int i = 8; i < 25; i++) {
                DUE.is("spot " + i, x.spot(insert, i % 5 - 2, i / 5), false);
            }
            DUE.is("one it has", x.spot(insert, 0, 0), false);
        }
        for (int insert = 0; insert < 3; insert++) {
            DUE.is("eight", x.clear(insert), 8);
            DUE.is("the first one again", x.spot(insert, 2, 4), true);
        }
    }

    /** Promise 5: "Answers how many it had": each number from 0 to 8. */
    private static void clearAnswers() {
        Counted x = new Counted();
        for (int many = 0; many <= 8; many++) {
            for (int i = 0; i < many; i++) {
                x.spot(1, i % 5 - 2, 3 + i / 5);
            }
            DUE.is("clear(1)", x.clear(1), many);
            DUE.is("clear(1) again", x.clear(1), 0);
        }
    }

    /** Promise 5: "NONE when there is none such" */
    private static void clearRange() {
        Counted x = new Counted();
        for (int insert = 0; insert < 3; insert++) {
            x.spot(insert, 0, 0);
        }
        for (int far : Ints.beyond(0, 2)) {
            DUE.is(Ints.call("clear", far), x.clear(far), TurnedBar.NONE);
        }
        for (int insert = 0; insert < 3; insert++) {
            DUE.is(Ints.call("clear", insert), x.clear(insert), 1);
        }
    }

    /** Promise 5 takes the spots alone: a job's row keeps an insert without spots, and takes it with new ones. */
    private static void clearLeavesTheRow() {
        Counted x = new Counted();
        x.spot(0, 0, 0);
        x.choose(0);
        x.choose(0);
        DUE.is("clear(0)", x.clear(0), 1);
        DUE.is("plan() of one without spots", x.plan(), TurnedBar.NONE);
        DUE.is("not a third time without spots", x.choose(0), TurnedBar.NONE);
        x.spot(0, 1, 0);
        DUE.is("plan() of one with spots", x.plan(), 5);
        DUE.is("a third time", x.choose(0), 3);
        x.clear(0);
        DUE.is("restart()", x.restart(), 3);
    }

    /** Promise 6: "NONE when there is no such insert" */
    private static void chooseRange() {
        Counted x = new Counted();
        for (int insert = 0; insert < 3; insert++) {
            x.spot(insert, 0, 0);
        }
        for (int far : Ints.beyond(0, 2)) {
            DUE.is(Ints.call("choose", far), x.choose(far), TurnedBar.NONE);
        }
        for (int insert = 0; insert < 3; insert++) {
            DUE.is(Ints.call("choose", insert), x.choose(insert), insert + 1);
        }
    }

    /** Promise 6: NONE when "it has no spots": none yet, or none any more. */
    private static void chooseWithoutSpots() {
        Counted x = new Counted();
        for (int insert = 0; insert < 3; insert++) {
            DUE.is("none yet", x.choose(insert), TurnedBar.NONE);
            x.spot(insert, 2, 4);
            x.clear(insert);
            DUE.is("none any more", x.choose(insert), TurnedBar.NONE);
        }
        x.spot(2, 2, 4);
        DUE.is("one", x.choose(2), 1);
        DUE.is("the others have none", x.choose(0), TurnedBar.NONE);
    }

    /** Promise 6: NONE when "there are 3": also of one insert thrice, and not behind a restart(). */
    private static void threeOfARow() {
        Counted x = new Counted();
        x.spot(0, 0, 0);
        x.spot(1, 0, 0);
        DUE.is("first", x.choose(0), 1);
        DUE.is("second", x.choose(0), 2);
        DUE.is("third", x.choose(0), 3);
        DUE.is("fourth, the same", x.choose(0), TurnedBar.NONE);
        DUE.is("fourth, another", x.choose(1), TurnedBar.NONE);
        DUE.is("changes of the three", x.plan(), 6);
        DUE.is("restart()", x.restart(), 3);
        DUE.is("first again", x.choose(1), 1);
    }

    /** Promise 7: "Answers how many it had": each number from 0 to 3. */
    private static void restartAnswers() {
        Counted x = new Counted();
        x.spot(0, 0, 0);
        for (int many = 0; many <= 3; many++) {
            for (int i = 0; i < many; i++) {
                x.choose(0);
            }
            DUE.is("restart()", x.restart(), many);
            DUE.is("restart() again", x.restart(), 0);
            DUE.is("the job has no inserts", x.plan(), TurnedBar.NONE);
        }
    }

    /** Promises 2 to 7: "The plan is gone", the trial and what simulate() left with it. */
    private static void planIsGone() {
        Counted x = planned();
        DUE.is("bar", x.bar(3, 2, 5), true);
        noPlan("bar", x);
        DUE.is("stock(1, 2) of the new bar", x.stock(1, 2), true);
        x = planned();
        DUE.is("profile", x.profile(0, 1), true);
        noPlan("profile", x);
        x = planned();
        DUE.is("spot", x.spot(0, 1, 0), true);
        noPlan("spot", x);
        x = planned();
        DUE.is("clear", x.clear(0), 1);
        noPlan("clear", x);
        x = planned();
        DUE.is("choose", x.choose(0), 2);
        noPlan("choose", x);
        x = planned();
        DUE.is("restart", x.restart(), 1);
        noPlan("restart", x);
    }

    /**
     * The same where the call is taken and yet makes nothing other: "The plan is gone" names no exception but NONE.
     * (restart() of an empty row cannot be seen to drop a plan: a plan has a row that is not empty.)
     */
    private static void planIsGoneThoughNothingIsOther() {
        Counted x = planned();
        DUE.is("the same bar", x.bar(2, 1, 12), true);
        noPlan("the same bar", x);
        x = planned();
        DUE.is("the same profile", x.profile(0, 0), true);
        noPlan("the same profile", x);
        x = planned();
        DUE.is("a profile beyond the bar", x.profile(11, 0), true);
        noPlan("a profile beyond the bar", x);
        x = planned();
        DUE.is("a spot of an insert that is not in the row", x.spot(2, 0, 0), true);
        noPlan("a spot of an insert that is not in the row", x);
        x = planned();
        DUE.is("clear() of none", x.clear(1), 0);
        noPlan("clear() of none", x);
    }

    /** Promises 5 and 6: "The plan is gone, unless that is NONE." */
    private static void planStaysBehindNone() {
        Counted x = planned();
        DUE.is("clear(-1)", x.clear(-1), TurnedBar.NONE);
        planStays("clear(-1)", x);
        DUE.is("clear(3)", x.clear(3), TurnedBar.NONE);
        planStays("clear(3)", x);
        DUE.is("choose(-1)", x.choose(-1), TurnedBar.NONE);
        planStays("choose(-1)", x);
        DUE.is("choose(3)", x.choose(3), TurnedBar.NONE);
        planStays("choose(3)", x);
        DUE.is("choose(1) without spots", x.choose(1), TurnedBar.NONE);
        planStays("choose(1)", x);
        x.choose(0);
        x.choose(0);
        DUE.is("plan() of three", x.plan(), 6);
        x.simulate(6);
        DUE.is("a fourth", x.choose(0), TurnedBar.NONE);
        planStays("a fourth", x);
    }

    /** A bar of two cells, whose plan has cut both. */
    private static Counted planned() {
        Counted x = new Counted();
        x.bar(2, 1, 12);
        x.spot(0, 0, 0);
        x.choose(0);
        DUE.is("plan()", x.plan(), 4);
        DUE.is("simulate(4)", x.simulate(4), 2);
        x.edit(1, 1, 0, 4);
        return x;
    }

    private static void planStays(String behind, Counted x) {
        DUE.is(behind + ": left()", x.left(), 0);
        DUE.is(behind + ": move(3, 2)", x.move(3, 2), 2);
        DUE.is(behind + ": stock(0, 0)", x.stock(0, 0), false);
    }

    private static void noPlan(String name, Counted x) {
        for (int what = 0; what <= 2; what++) {
            DUE.is(name + ": " + Ints.call("move", 0, what), x.move(0, what), TurnedBar.NONE);
        }
        DUE.is(name + ": edit(0, 2, 0, 0)", x.edit(0, 2, 0, 0), false);
        DUE.is(name + ": edit(1, 0, 0, 1)", x.edit(1, 0, 0, 1), false);
        DUE.is(name + ": undo()", x.undo(), 0);
        DUE.is(name + ": simulate(0)", x.simulate(0), TurnedBar.NONE);
        DUE.is(name + ": simulate(4)", x.simulate(4), TurnedBar.NONE);
        DUE.is(name + ": stock(0, 0)", x.stock(0, 0), true);
        DUE.is(name + ": fault()", x.fault(), TurnedBar.NONE);
        DUE.is(name + ": left()", x.left(), TurnedBar.NONE);
        DUE.is(name + ": steps(0)", x.steps(0), 0);
        DUE.is(name + ": steps(1)", x.steps(1), 0);
    }
}
