/** The edges of promises 12 to 16 and 18, and of the terms trial and faults. */
public final class TrialEdgeTest {
    private static final Due DUE = new Due();

    public static void main(String[] args) {
        editRanges();
        editStepsAndDirections();
        editToAChange();
        editStaysAMoveOfItsOwn();
        editWithoutPlan();
        undoAnswers();
        undoOfWhatDiffers();
        undoWithoutPlan();
        simulateRange();
        simulateOfFewerMoves();
        simulateUpToTheFault();
        simulateWithoutPlan();
        simulateFromTheWholeBar();
        feedsOfNothing();
        feedsWhereItWasCut();
        stockOfTheLatestSimulate();
        stockWithoutSimulate();
        stockIsNotChangedByAsking();
        stockOfNoSuchCell();
        noFault();
        notSafe();
        noSuchPosition();
        notSafeBeforeStock();
        rapidIntoStock();
        beforeAnyChange();
        noInsertAnyMore();
        firstFaultOfTheTrial();
        faultsOfLateMoves();
        stepsOfEachKind();
        stepsOfOtherKinds();
        stepsOfTheTrial();
        stepsWithoutPlan();
        DUE.end();
    }

    /** The plan: change, 4 rapid to z 0, 13 rapid to r 2, 2 feed to r 0. */
    private static Counted column() {
        Counted x = new Counted();
        x.bar(2, 1, 12);
        x.spot(0, 0, 0);
        x.choose(0);
        DUE.is("plan()", x.plan(), 4);
        return x;
    }

    /** Promise 12: "false when there is no such move, kind is not 0 .. 2, direction not 0 .. 3, or steps not 1 .. 40" */
    private static void editRanges() {
        for (int kind = 0; kind <= 2; kind++) {
            Counted x = column();
            for (int far : Ints.beyond(0, 3)) {
                DUE.is(Ints.call("edit", far, kind, 1, 5), x.edit(far, kind, 1, 5), false);
            }
            DUE.is("no move is other", x.undo(), 0);
            for (int i = 0; i <= 3; i++) {
                DUE.is(Ints.call("edit", i, kind, 1, 5), x.edit(i, kind, 1, 5), true);
                DUE.is(Ints.call("move", i, 0), x.move(i, 0), kind);
            }
        }
        Counted x = column();
        for (int far : Ints.beyond(0, 2)) {
            DUE.is(Ints.call("edit", 1, far, 1, 5), x.edit(1, far, 1, 5), false);
        }
        for (int far : Ints.beyond(0, 3)) {
            DUE.is(Ints.call("edit", 1, 0, far, 5), x.edit(1, 0, far, 5), false);
            DUE.is(Ints.call("edit", 1, 1, far, 5), x.edit(1, 1, far, 5), false);
        }
        for (int far : Ints.beyond(1, 40)) {
            DUE.is(Ints.call("edit", 1, 0, 1, far), x.edit(1, 0, 1, far), false);
            DUE.is(Ints.call("edit", 1, 1, 1, far), x.edit(1, 1, 1, far), false);
        }
        DUE.is("no move is other", x.undo(), 0);
    }

    /** Promise 12: "Move i of the trial becomes so", each direction and each number of steps from 1 to 40. */
    private static void editStepsAndDirections() {
        for (int kind = 0; kind <= 1; kind++) {
            Counted x = column();
            for (int steps = 1; steps <= 40; steps++) {
                int direction = steps % 4;
                DUE.is(Ints.call("edit", 2, kind, direction, steps), x.edit(2, kind, direction, steps), true);
                DUE.is("its kind", x.move(2, 0), kind);
                DUE.is("its direction", x.move(2, 1), direction);
                DUE.is("its steps", x.move(2, 2), steps);
            }
            DUE.is("the move before", x.move(1, 2), 4);
            DUE.is("the move behind", x.move(3, 2), 2);
        }
    }

    /** Promise 12: "(for a change direction and steps may be any)"; promise 11: "0 for a change". */
    private static void editToAChange() {
        Counted x = column();
        int[] any = {0, 1, -1, 3, 4, 40, 41, 256, 1 << 28, Integer.MIN_VALUE, Integer.MAX_VALUE};
        for (int direction : any) {
            for (int steps : any) {
                x.edit(1, 1, 3, 7);
                DUE.is(Ints.call("edit", 1, 2, direction, steps), x.edit(1, 2, direction, steps), true);
                DUE.is("its kind", x.move(1, 0), 2);
            }
        }
        DUE.is("its direction", x.move(1, 1), 0);
        DUE.is("its steps", x.move(1, 2), 0);
        DUE.is("it has none to be counted", x.steps(0), 13);
        x.edit(0, 2, 3, 9);
        x.edit(1, 0, 0, 4);
        DUE.is("a change is a change", x.undo(), 0);
        DUE.is("and a move again by edit()", x.edit(0, 1, 3, 1), true);
        DUE.is("of one step", x.move(0, 2), 1);
    }

    /** Promise 12: "(it stays a move of its own)": though it is like its neighbours. */
    private static void editStaysAMoveOfItsOwn() {
        Counted x = column();
        for (int i = 1; i <= 3; i++) {
            x.edit(i, 0, 2, 5);
        }
        for (int i = 1; i <= 3; i++) {
            DUE.is(Ints.call("move", i, 2), x.move(i, 2), 5);
        }
        DUE.is("move(4, 2)", x.move(4, 2), TurnedBar.NONE);
        DUE.is("steps(0)", x.steps(0), 15);
        x.edit(3, 0, 2, 6);
        DUE.is("the fault is the last one's", x.fault(), 31);
        for (int i = 0; i <= 3; i++) {
            x.edit(i, 2, 0, 0);
        }
        DUE.is("four changes", x.fault(), 14);
        DUE.is("undo()", x.undo(), 3);
        DUE.is("the four moves again", x.move(3, 2), 2);
    }

    /** Promise 12: without a plan there is no such move. */
    private static void editWithoutPlan() {
        Counted x = new Counted();
        DUE.is("none yet", x.edit(0, 2, 0, 0), false);
        x = column();
        DUE.is("one", x.edit(0, 2, 0, 0), true);
        x.profile(0, 0);
        for (int i = 0; i <= 3; i++) {
            DUE.is("it is gone", x.edit(i, 0, 0, 1), false);
        }
        DUE.is("plan()", x.plan(), 4);
        DUE.is("the new one is untouched", x.undo(), 0);
    }

    /** Promise 13: "Answers how many moves differed": from none to all of them. */
    private static void undoAnswers() {
        Counted x = column();
        for (int many = 0; many <= 4; many++) {
            for (int i = 0; i < many; i++) {
                DUE.is("edit()", x.edit(i, 1, 3, 39), true);
            }
            DUE.is("undo()", x.undo(), many);
            DUE.is("undo() again", x.undo(), 0);
            DUE.is("fault()", x.fault(), TurnedBar.NONE);
        }
    }

    /** Promise 13: a move differs by its kind, its direction or its steps alone, and not when it is as it was. */
    private static void undoOfWhatDiffers() {
        Counted x = column();
        x.edit(1, 1, 0, 4);
        DUE.is("its kind", x.undo(), 1);
        x.edit(1, 0, 3, 4);
        DUE.is("its direction", x.undo(), 1);
        x.edit(1, 0, 0, 5);
        DUE.is("its steps", x.undo(), 1);
        x.edit(1, 0, 0, 4);
        DUE.is("nothing", x.undo(), 0);
        x.edit(1, 2, 0, 4);
        x.edit(1, 1, 1, 1);
        DUE.is("edited twice", x.undo(), 1);
        x.edit(1, 1, 1, 1);
        x.edit(1, 0, 0, 4);
        DUE.is("edited and back", x.undo(), 0);
        x.edit(0, 2, 1, 1);
        DUE.is("a change to a change", x.undo(), 0);
        x.edit(1, 3, 0, 4);
        x.edit(1, 0, 4, 4);
        x.edit(1, 0, 0, 41);
        DUE.is("refused ones", x.undo(), 0);
    }

    /** Promise 13 without a plan: no move differs. */
    private static void undoWithoutPlan() {
        Counted x = new Counted();
        DUE.is("none yet", x.undo(), 0);
        x = column();
        x.edit(1, 1, 1, 1);
        x.restart();
        DUE.is("it is gone", x.undo(), 0);
        DUE.is("no move comes back", x.move(0, 0), TurnedBar.NONE);
        x.choose(0);
        x.plan();
        DUE.is("a new one", x.undo(), 0);
    }

    /** Promise 14: "NONE when n is below 0" */
    private static void simulateRange() {
        Counted x = column();
        for (int far : Ints.below(0)) {
            DUE.is(Ints.call("simulate", far), x.simulate(far), TurnedBar.NONE);
        }
        DUE.is("simulate(0)", x.simulate(0), 0);
        DUE.is("simulate(1)", x.simulate(1), 0);
        DUE.is("simulate(3)", x.simulate(3), 0);
        DUE.is("simulate(4)", x.simulate(4), 2);
    }

    /** Promise 14: "(all, if there are fewer)" */
    private static void simulateOfFewerMoves() {
        Counted x = column();
        int[] more = {5, 6, 2000, 2001, 1 << 16, 1 << 30, Integer.MAX_VALUE - 1, Integer.MAX_VALUE};
        for (int n : more) {
            DUE.is(Ints.call("simulate", n), x.simulate(n), 2);
            DUE.is("stock(0, 0)", x.stock(0, 0), false);
            DUE.is("simulate(3)", x.simulate(3), 0);
            DUE.is("stock(0, 0) again", x.stock(0, 0), true);
        }
    }

    /** Promise 14: "Answers how many cells were cut, up to the first fault": within a move too. */
    private static void simulateUpToTheFault() {
        Counted x = column();
        x.edit(3, 1, 2, 1);
        DUE.is("one step", x.simulate(4), 1);
        x.edit(3, 1, 2, 40);
        DUE.is("two steps, and a third that is none", x.fault(), 31);
        DUE.is("both cells", x.simulate(4), 2);
        DUE.is("moves before it", x.simulate(3), 0);
        x.profile(0, 1);
        x.plan();
        x.edit(3, 1, 2, 2);
        DUE.is("the second one into the profile", x.fault(), 31);
        DUE.is("one cell", x.simulate(4), 1);
        DUE.is("it is cut", x.stock(0, 1), false);
        DUE.is("what is to stay is not", x.stock(0, 0), true);
        // Nothing behind a fault counts, though it would cut.
        x.undo();
        x.edit(1, 0, 1, 1);
        DUE.is("a fault before all cuts", x.simulate(4), 0);
        DUE.is("nothing is cut", x.stock(0, 1), true);
    }

    /** Promise 14: NONE when "there is no plan" */
    private static void simulateWithoutPlan() {
        Counted x = new Counted();
        int[] all = {0, 1, 4, 2000, Integer.MAX_VALUE};
        for (int n : all) {
            DUE.is("none yet: " + Ints.call("simulate", n), x.simulate(n), TurnedBar.NONE);
        }
        x = column();
        x.clear(2);
        for (int n : all) {
            DUE.is("it is gone: " + Ints.call("simulate", n), x.simulate(n), TurnedBar.NONE);
        }
    }

    /** "from the whole bar": each time anew, however much was cut before. */
    private static void simulateFromTheWholeBar() {
        Counted x = column();
        for (int i = 0; i < 3; i++) {
            DUE.is("simulate(4)", x.simulate(4), 2);
            DUE.is("all is cut", x.stock(0, 1) || x.stock(0, 0), false);
        }
        DUE.is("simulate(0)", x.simulate(0), 0);
        DUE.is("nothing is cut", x.stock(0, 1) && x.stock(0, 0), true);
    }

    /** "feeds cut what they cover, also where that is nothing": it is no fault, and no cell. */
    private static void feedsOfNothing() {
        Counted x = column();
        x.edit(1, 1, 0, 4);
        x.edit(2, 1, 2, 13);
        DUE.is("feeds through nothing", x.fault(), TurnedBar.NONE);
        DUE.is("no cell by them", x.simulate(3), 0);
        DUE.is("both cells behind them", x.simulate(4), 2);
        x.edit(3, 1, 0, 1);
        DUE.is("a feed past the bar", x.fault(), TurnedBar.NONE);
        DUE.is("cuts nothing", x.simulate(4), 0);
        DUE.is("all is there", x.stock(0, 1) && x.stock(0, 0), true);
    }

    /** The same where stock has been, and a cell is cut once though it is fed over twice. */
    private static void feedsWhereItWasCut() {
        Counted x = new Counted();
        x.bar(2, 2, 12);
        x.spot(0, 0, 0);
        x.choose(0);
        DUE.is("plan()", x.plan(), 6);
        x.edit(4, 1, 3, 2);
        x.edit(5, 1, 2, 2);
        DUE.is("up and down by feed", x.fault(), TurnedBar.NONE);
        DUE.is("the first column alone", x.simulate(6), 2);
        x.edit(4, 0, 3, 2);
        x.edit(5, 0, 2, 2);
        DUE.is("up and down by rapid", x.fault(), TurnedBar.NONE);
        x.edit(5, 0, 0, 1);
        DUE.is("over the second column", x.fault(), TurnedBar.NONE);
        x.edit(4, 0, 3, 1);
        DUE.is("into the second column", x.fault(), 52);
    }

    /** Promise 15: "Whether a cell was stock when the latest simulate() ended" */
    private static void stockOfTheLatestSimulate() {
        Counted x = column();
        x.edit(3, 1, 2, 1);
        x.simulate(4);
        DUE.is("the first of two: outer", x.stock(0, 1), false);
        DUE.is("the first of two: inner", x.stock(0, 0), true);
        x.undo();
        DUE.is("undo() is no simulate()", x.stock(0, 0), true);
        x.simulate(4);
        DUE.is("the second of two: inner", x.stock(0, 0), false);
        x.edit(3, 2, 0, 0);
        DUE.is("edit() is no simulate()", x.stock(0, 0), false);
        x.fault();
        x.left();
        x.steps(1);
        x.move(3, 0);
        x.at(0, 0, 0, 1);
        x.reach(0, 0, 0);
        DUE.is("nor are the others", x.stock(0, 0), false);
        DUE.is("nor is one that is refused", x.simulate(-1), TurnedBar.NONE);
        DUE.is("it is cut still", x.stock(0, 0), false);
        x.simulate(3);
        DUE.is("before the cut", x.stock(0, 0), true);
    }

    /** Promise 15: "as long as there was none since the plan was made or gone, whether it is a cell of the bar" */
    private static void stockWithoutSimulate() {
        Counted x = new Counted();
        DUE.is("no plan yet", x.stock(0, 0), true);
        DUE.is("not of the bar", x.stock(1, 0), false);
        x = column();
        DUE.is("made, none yet", x.stock(0, 1), true);
        x.profile(0, 1);
        DUE.is("to stay, and a cell of the bar", x.stock(0, 0), true);
        x.plan();
        x.simulate(4);
        DUE.is("cut", x.stock(0, 1), false);
        x.plan();
        DUE.is("made again", x.stock(0, 1), true);
        x.simulate(4);
        x.clear(1);
        DUE.is("gone", x.stock(0, 1), true);
        DUE.is("simulate() without a plan", x.simulate(4), TurnedBar.NONE);
        DUE.is("is none", x.stock(0, 1), true);
        x.plan();
        x.simulate(4);
        x.bar(1, 2, 1);
        DUE.is("gone, and another bar", x.stock(1, 0), true);
        DUE.is("the old one's cell", x.stock(0, 1), false);
        x.clear(0);
        x.plan();
        DUE.is("plan() answered NONE", x.stock(0, 0), true);
    }

    /** Promise 15: "which this call does not change" */
    private static void stockIsNotChangedByAsking() {
        Counted x = column();
        x.edit(3, 1, 2, 1);
        x.simulate(4);
        for (int i = 0; i < 20; i++) {
            DUE.is("outer", x.stock(0, 1), false);
            DUE.is("inner", x.stock(0, 0), true);
            DUE.is("none", x.stock(-1, 20), false);
        }
        DUE.is("simulate(4)", x.simulate(4), 1);
        DUE.is("fault()", x.fault(), TurnedBar.NONE);
        DUE.is("undo()", x.undo(), 1);
    }

    /** Promise 15: "False when there is no such cell." */
    private static void stockOfNoSuchCell() {
        Counted x = new Counted();
        x.bar(8, 12, 12);
        x.spot(0, 0, 0);
        x.choose(0);
        x.plan();
        x.simulate(0);
        int[][] corners = {{0, 0}, {11, 0}, {0, 7}, {11, 7}};
        for (int[] cell : corners) {
            DUE.is(Ints.call("stock", cell[0], cell[1]), x.stock(cell[0], cell[1]), true);
        }
        for (int far : Ints.beyond(0, 11)) {
            DUE.is(Ints.call("stock", far, 3), x.stock(far, 3), false);
            DUE.is(Ints.call("stock", far, far), x.stock(far, far), false);
        }
        for (int far : Ints.beyond(0, 7)) {
            DUE.is(Ints.call("stock", 3, far), x.stock(3, far), false);
        }
    }

    /** Promise 16: "NONE when it has none, or there is no plan" */
    private static void noFault() {
        Counted x = new Counted();
        DUE.is("no plan yet", x.fault(), TurnedBar.NONE);
        x = column();
        DUE.is("of the plan itself", x.fault(), TurnedBar.NONE);
        x.edit(3, 1, 2, 1);
        DUE.is("of a trial that cuts less", x.fault(), TurnedBar.NONE);
        x.edit(3, 0, 2, 1);
        DUE.is("one with a fault", x.fault(), 32);
        x.undo();
        DUE.is("undone", x.fault(), TurnedBar.NONE);
        x.edit(0, 0, 0, 1);
        DUE.is("one with a fault again", x.fault(), 3);
        x.restart();
        DUE.is("the plan is gone", x.fault(), TurnedBar.NONE);
    }

    /** "a step to a position that is not safe ... (it is 1)": in the profile or the chuck, by rapid or feed. */
    private static void notSafe() {
        Counted x = new Counted();
        x.bar(2, 1, 3);
        x.profile(0, 1);
        x.profile(1, 5);
        x.spot(0, 0, 0);
        x.choose(0);
        DUE.is("plan()", x.plan(), 4);
        for (int kind = 0; kind <= 1; kind++) {
            x.edit(1, kind, 0, 6);
            DUE.is("before the chuck", x.fault(), TurnedBar.NONE);
            x.edit(1, kind, 0, 7);
            DUE.is("in the chuck", x.fault(), 11);
            x.edit(1, kind, 0, 5);
            x.edit(2, kind, 2, 10);
            x.edit(3, kind, 3, 1);
            DUE.is("on the profile", x.fault(), TurnedBar.NONE);
            x.edit(2, kind, 2, 11);
            DUE.is("in the profile", x.fault(), 21);
            x.undo();
        }
        x.edit(3, 1, 2, 1);
        DUE.is("on the profile that stays", x.fault(), TurnedBar.NONE);
        x.edit(3, 1, 2, 2);
        DUE.is("in the profile that stays", x.fault(), 31);
    }

    /**
     * "or that there is not (it is 1)": beyond z -4, r 0 and r 15. Beyond z 15 there is no step to be made: an insert
     * of a trial has spots, and then from z 14 on the chuck is in its way.
     */
    private static void noSuchPosition() {
        Counted x = new Counted();
        x.bar(1, 1, 12);
        x.spot(0, -2, 0);
        x.choose(0);
        DUE.is("plan()", x.plan(), 4);
        x.edit(3, 2, 0, 0);
        for (int kind = 0; kind <= 1; kind++) {
            x.edit(2, kind, 0, 1);
            x.edit(1, kind, 3, 1);
            DUE.is("r 16", x.fault(), 11);
            x.edit(1, kind, 1, 1);
            DUE.is("z -5", x.fault(), 11);
            x.edit(1, kind, 2, 15);
            DUE.is("r 0", x.fault(), 34);
            x.edit(1, kind, 2, 16);
            DUE.is("r -1", x.fault(), 11);
            x.edit(1, kind, 2, 40);
            DUE.is("r -25", x.fault(), 11);
            x.edit(1, kind, 0, 16);
            DUE.is("z 12, and then z 13", x.fault(), 34);
            x.edit(1, kind, 0, 17);
            DUE.is("z 13, and then z 14", x.fault(), 21);
            x.edit(1, kind, 0, 18);
            DUE.is("z 14", x.fault(), 11);
            x.edit(1, kind, 0, 3);
            x.edit(2, kind, 1, 3);
            DUE.is("back to z -4", x.fault(), 34);
            x.edit(2, kind, 1, 4);
            DUE.is("back beyond z -4", x.fault(), 21);
        }
    }

    /** A step that is both not safe and a rapid into stock: the document tells the first of the two first. */
    private static void notSafeBeforeStock() {
        Counted x = new Counted();
        x.bar(4, 1, 12);
        x.profile(0, 2);
        x.spot(0, 0, 0);
        x.spot(0, 0, 2);
        x.choose(0);
        DUE.is("plan()", x.plan(), 4);
        x.edit(1, 0, 2, 14);
        x.edit(2, 0, 0, 3);
        x.edit(3, 0, 0, 1);
        DUE.is("beside it", x.at(0, -1, 1, 0), true);
        DUE.is("not safe", x.at(0, 0, 1, 0), false);
        DUE.is("and stock", x.at(0, 0, 1, 2), true);
        DUE.is("fault()", x.fault(), 31);
        x.edit(1, 0, 2, 13);
        DUE.is("one further out it is safe", x.fault(), 32);
    }

    /** "a rapid step to where the insert covers stock (2)": the last step before it is none, and it cuts nothing. */
    private static void rapidIntoStock() {
        Counted x = column();
        x.edit(3, 1, 2, 1);
        DUE.is("up to the stock", x.fault(), TurnedBar.NONE);
        x.edit(2, 0, 2, 14);
        DUE.is("into the stock", x.fault(), 22);
        DUE.is("nothing is cut", x.simulate(4), 0);
        DUE.is("it is there", x.stock(0, 1), true);
        x.edit(2, 0, 2, 13);
        x.edit(3, 0, 2, 1);
        DUE.is("by the next move", x.fault(), 32);
        // What is to stay is stock as well, but there no step is safe.
        x.profile(0, 2);
        x.plan();
        DUE.is("the change alone", x.move(1, 0), TurnedBar.NONE);
        anySpotIntoStock();
    }

    // Its second spot alone meets the stock.
    private static void anySpotIntoStock() {
        Counted x = new Counted();
        x.bar(1, 2, 12);
        x.spot(0, 0, 1);
        x.spot(0, 1, 0);
        x.choose(0);
        DUE.is("plan()", x.plan(), 5);
        x.edit(1, 0, 2, 15);
        x.edit(2, 0, 0, 2);
        x.edit(3, 0, 0, 1);
        DUE.is("beside it", x.fault(), 32);
        DUE.is("simulate(3)", x.simulate(3), 0);
    }

    /** "a feed or rapid before any change (3)" */
    private static void beforeAnyChange() {
        for (int kind = 0; kind <= 1; kind++) {
            for (int direction = 0; direction <= 3; direction++) {
                Counted x = column();
                x.edit(0, kind, direction, 1);
                DUE.is("the first move", x.fault(), 3);
                DUE.is("nothing is cut", x.simulate(4), 0);
                DUE.is("nothing at all", x.simulate(0), 0);
                x.edit(1, 2, 0, 0);
                DUE.is("a change behind it is too late", x.fault(), 3);
                x.edit(0, 2, 0, 0);
                DUE.is("now the second change is the fault", x.fault(), 14);
            }
        }
    }

    /** "a change for which the row has no insert any more (4)": the one behind as many as the row has. */
    private static void noInsertAnyMore() {
        for (int many = 1; many <= 3; many++) {
            Counted x = new Counted();
            x.bar(4, 4, 12);
            x.spot(0, 0, 0);
            for (int i = 0; i < many; i++) {
                x.choose(0);
            }
            int moves = x.plan();
            DUE.is("enough moves", moves > 5, true);
            for (int i = 0; i < many; i++) {
                x.edit(i, 2, 0, 0);
            }
            goToAndFro(x, many, moves);
            DUE.is("as many as the row has: " + many, x.fault(), TurnedBar.NONE);
            x.edit(moves - 1, 2, 0, 0);
            DUE.is("one more at the end", x.fault(), 10 * (moves - 1) + 4);
            x.edit(many, 2, 0, 0);
            DUE.is("one more at once", x.fault(), 10 * many + 4);
        }
    }

    // Between z -4 and z -3 it meets nothing.
    private static void goToAndFro(Counted x, int from, int to) {
        for (int i = from; i < to; i++) {
            x.edit(i, 0, (i - from) % 2, 1);
        }
    }

    /** "It ends at the first one": the fault of the trial is its first, whatever simulate() went through. */
    private static void firstFaultOfTheTrial() {
        Counted x = column();
        x.edit(3, 0, 2, 1);
        x.edit(2, 0, 2, 14);
        DUE.is("the first of two", x.fault(), 22);
        x.edit(1, 0, 1, 1);
        DUE.is("the first of three", x.fault(), 11);
        x.edit(0, 1, 0, 1);
        DUE.is("the first of four", x.fault(), 3);
        x.undo();
        x.edit(3, 2, 0, 0);
        DUE.is("simulate(3) comes before it", x.simulate(3), 0);
        DUE.is("fault() goes through all", x.fault(), 34);
        DUE.is("and again", x.fault(), 34);
        // Behind its fault a feed would cut.
        x.edit(2, 2, 0, 0);
        x.edit(3, 1, 2, 2);
        DUE.is("a change too many first", x.fault(), 24);
        DUE.is("nothing behind it", x.simulate(4), 0);
    }

    /** Promise 16: "10 times the move, and the kind of fault": moves of two figures too. */
    private static void faultsOfLateMoves() {
        Counted x = new Counted();
        x.bar(8, 12, 12);
        x.spot(0, 0, 0);
        x.choose(0);
        DUE.is("plan()", x.plan(), 26);
        x.edit(25, 2, 0, 0);
        DUE.is("the last move", x.fault(), 254);
        x.edit(25, 1, 0, 1);
        DUE.is("the last move into the chuck", x.fault(), 251);
        x.edit(24, 0, 0, 1);
        DUE.is("the last but one into stock", x.fault(), 242);
        x.edit(10, 0, 0, 1);
        DUE.is("move 10", x.fault(), 102);
        x.edit(9, 2, 0, 0);
        DUE.is("move 9", x.fault(), 94);
    }

    /** Promise 18: "rapid (kind = 0), feed (1)": each kind alone, changes not. */
    private static void stepsOfEachKind() {
        Counted x = column();
        DUE.is("steps(0)", x.steps(0), 17);
        DUE.is("steps(1)", x.steps(1), 2);
        x.edit(3, 2, 0, 0);
        DUE.is("no feed any more", x.steps(1), 0);
        x.edit(1, 2, 0, 0);
        x.edit(2, 2, 0, 0);
        DUE.is("no rapid any more", x.steps(0), 0);
        for (int i = 0; i <= 3; i++) {
            x.edit(i, 1, 0, 40);
        }
        DUE.is("all feed", x.steps(1), 160);
        DUE.is("none rapid", x.steps(0), 0);
        x.edit(2, 0, 0, 1);
        DUE.is("one rapid", x.steps(0), 1);
        DUE.is("three feed", x.steps(1), 120);
    }

    /** Promise 18: "0 for any other kind": a change's too. */
    private static void stepsOfOtherKinds() {
        Counted x = column();
        DUE.is("steps(2)", x.steps(2), 0);
        for (int far : Ints.beyond(0, 1)) {
            DUE.is(Ints.call("steps", far), x.steps(far), 0);
        }
        x.edit(1, 2, 3, 40);
        DUE.is("steps(2) of two changes", x.steps(2), 0);
    }

    /** Promise 18: "the trial's moves ... in all": as they are told, whether they can be gone or not. */
    private static void stepsOfTheTrial() {
        Counted x = column();
        x.edit(1, 0, 3, 40);
        DUE.is("it has a fault", x.fault(), 11);
        DUE.is("and all its steps count", x.steps(0), 53);
        x.simulate(1);
        DUE.is("also behind simulate(1)", x.steps(0), 53);
        x.undo();
        DUE.is("undone", x.steps(0), 17);
    }

    /** Promise 18: 0 "when there is no plan" */
    private static void stepsWithoutPlan() {
        Counted x = new Counted();
        for (int kind = -1; kind <= 3; kind++) {
            DUE.is("none yet", x.steps(kind), 0);
        }
        x = column();
        x.bar(2, 1, 12);
        for (int kind = -1; kind <= 3; kind++) {
            DUE.is("it is gone", x.steps(kind), 0);
        }
    }
}
