/** Promises 12 to 16 and 18: edit, undo, simulate, stock, fault, steps. */
public final class TrialTest {
    private static final Due DUE = new Due();

    public static void main(String[] args) {
        edit();
        undo();
        simulate();
        stock();
        faultsOfSteps();
        faultsOfRapids();
        faultsOfChanges();
        feedsOfNothing();
        steps();
        DUE.end();
    }

    /** The plan: change, 4 rapid to z 0, 13 rapid to r 2, 2 feed to r 0. */
    private static TurnedBar column() {
        TurnedBar x = new TurnedBar();
        x.bar(2, 1, 12);
        x.spot(0, 0, 0);
        x.choose(0);
        DUE.is("plan()", x.plan(), 4);
        return x;
    }

    private static void edit() {
        TurnedBar x = column();
        int[][] refused = {
            {-1, 0, 0, 1}, {4, 0, 0, 1}, {1, -1, 0, 1}, {1, 3, 0, 1}, {1, 0, -1, 1}, {1, 1, 4, 1}, {1, 0, 0, 0},
            {1, 1, 0, 41}, {1, 0, 0, -1}, {4, 2, 0, 0}, {-1, 2, 0, 0}};
        for (int[] row : refused) {
            DUE.is("edit(" + row[0] + ", " + row[1] + ", " + row[2] + ", " + row[3] + ")",
                x.edit(row[0], row[1], row[2], row[3]), false);
        }
        DUE.is("nothing was changed", x.undo(), 0);
        DUE.is("edit(1, 1, 3, 40)", x.edit(1, 1, 3, 40), true);
        DUE.move(x, 1, 1, 3, 40);
        DUE.is("edit(0, 0, 0, 1)", x.edit(0, 0, 0, 1), true);
        DUE.move(x, 0, 0, 0, 1);
        DUE.is("edit(2, 2, -9, 99)", x.edit(2, 2, -9, 99), true);
        DUE.move(x, 2, 2, 0, 0);
        // As its neighbour, but it stays a move of its own.
        DUE.is("edit(1, 0, 0, 1)", x.edit(1, 0, 0, 1), true);
        DUE.move(x, 0, 0, 0, 1);
        DUE.move(x, 1, 0, 0, 1);
        DUE.move(x, 3, 1, 2, 2);
    }

    private static void undo() {
        TurnedBar x = column();
        DUE.is("undo() of nothing", x.undo(), 0);
        x.edit(1, 0, 0, 5);
        x.edit(1, 0, 0, 6);
        x.edit(2, 1, 2, 13);
        x.edit(3, 1, 3, 2);
        DUE.is("undo()", x.undo(), 3);
        DUE.move(x, 1, 0, 0, 4);
        DUE.move(x, 2, 0, 2, 13);
        DUE.move(x, 3, 1, 2, 2);
        x.edit(0, 0, 0, 1);
        DUE.is("undo() of the first move", x.undo(), 1);
        x.edit(1, 0, 0, 4);
        x.edit(0, 2, 7, 7);
        DUE.is("edited to the same", x.undo(), 0);
        x.edit(1, 0, 0, 5);
        x.edit(1, 0, 0, 4);
        DUE.is("edited back", x.undo(), 0);
        DUE.is("without a plan", new TurnedBar().undo(), 0);
    }

    private static void simulate() {
        TurnedBar x = column();
        DUE.is("simulate(-1)", x.simulate(-1), TurnedBar.NONE);
        DUE.is("simulate(MIN)", x.simulate(Integer.MIN_VALUE), TurnedBar.NONE);
        DUE.is("simulate(0)", x.simulate(0), 0);
        DUE.is("simulate(3)", x.simulate(3), 0);
        DUE.is("simulate(4)", x.simulate(4), 2);
        DUE.is("simulate(4) again", x.simulate(4), 2);
        DUE.is("simulate(MAX)", x.simulate(Integer.MAX_VALUE), 2);
        x.edit(3, 1, 2, 1);
        DUE.is("one step less", x.simulate(4), 1);
        x.edit(3, 1, 2, 3);
        DUE.is("cut before the fault", x.simulate(4), 2);
        x.edit(1, 0, 1, 1);
        DUE.is("nothing before the fault", x.simulate(4), 0);
        DUE.is("without a plan", new TurnedBar().simulate(1), TurnedBar.NONE);
    }

    private static void stock() {
        TurnedBar x = column();
        DUE.is("before", x.stock(0, 1), true);
        DUE.is("not of the bar", x.stock(1, 0), false);
        int[][] none = {{-1, 0}, {0, -1}, {12, 0}, {0, 8}, {-1, 8}, {Integer.MAX_VALUE, Integer.MAX_VALUE}};
        for (int[] row : none) {
            DUE.is("stock(" + row[0] + ", " + row[1] + ")", x.stock(row[0], row[1]), false);
        }
        x.edit(3, 1, 2, 1);
        x.simulate(4);
        DUE.is("the outer one is cut", x.stock(0, 1), false);
        DUE.is("the inner one is not", x.stock(0, 0), true);
        x.undo();
        x.fault();
        x.left();
        DUE.is("not by fault()", x.stock(0, 0), true);
        DUE.is("not by undo()", x.stock(0, 1), false);
        DUE.is("refused", x.simulate(-1), TurnedBar.NONE);
        DUE.is("not by what is refused", x.stock(0, 1), false);
        x.simulate(4);
        x.edit(3, 0, 0, 1);
        DUE.is("not by edit()", x.stock(0, 0), false);
        x.simulate(0);
        DUE.is("from the whole bar again", x.stock(0, 0), true);
        x.simulate(4);
        x.bar(1, 3, 12);
        DUE.is("a new bar", x.stock(2, 0), true);
        DUE.is("no more of the old one", x.stock(0, 1), false);
        x.restart();
        DUE.is("no plan", x.plan(), TurnedBar.NONE);
        DUE.is("as the bar is", x.stock(0, 0), true);
    }

    private static void faultsOfSteps() {
        TurnedBar x = column();
        DUE.is("of the plan", x.fault(), TurnedBar.NONE);
        int[][] out = {{3, 1}, {1, 1}, {2, 16}, {0, 16}};
        for (int[] row : out) {
            x.edit(1, 0, row[0], row[1]);
            DUE.is("out of all positions, or into the chuck, by " + row[0], x.fault(), 11);
            x.edit(1, 1, row[0], row[1]);
            DUE.is("by feed", x.fault(), 11);
        }
        x.edit(2, 0, 0, 1);
        x.edit(3, 0, 0, 1);
        x.edit(1, 0, 2, 15);
        DUE.is("to the edge", x.fault(), TurnedBar.NONE);
        x.edit(1, 0, 0, 15);
        DUE.is("up to the chuck", x.fault(), 21);
        x = column();
        x.profile(0, 1);
        x.plan();
        DUE.is("over the profile", x.fault(), TurnedBar.NONE);
        x.edit(3, 1, 2, 2);
        DUE.is("into the profile", x.fault(), 31);
        DUE.is("what stays is not cut", x.simulate(9), 1);
        DUE.is("it is there", x.stock(0, 0), true);
        x.edit(2, 0, 2, 15);
        DUE.is("the first one", x.fault(), 22);
        x.profile(0, 2);
        x.spot(0, 0, 2);
        x.bar(3, 1, 12);
        x.plan();
        // At r 1 its inner spot is in the profile while its outer one would cut: the step is not safe.
        x.edit(2, 0, 2, 14);
        DUE.is("stock comes first", x.fault(), 22);
        x.edit(1, 0, 2, 14);
        x.edit(2, 0, 0, 4);
        DUE.is("both at one step", x.fault(), 21);
    }

    private static void faultsOfRapids() {
        TurnedBar x = column();
        x.edit(3, 0, 2, 1);
        DUE.is("rapid into stock", x.fault(), 32);
        DUE.is("it cuts nothing", x.simulate(4), 0);
        DUE.is("it is there", x.stock(0, 1), true);
        x.edit(3, 1, 2, 1);
        x.edit(2, 0, 2, 14);
        DUE.is("its last step", x.fault(), 22);
        x = column();
        x.bar(2, 2, 12);
        x.plan();
        // Back over what was cut before is no fault.
        x.edit(4, 0, 3, 1);
        x.edit(5, 0, 2, 1);
        DUE.is("rapid where it was cut", x.fault(), TurnedBar.NONE);
        DUE.is("two cells", x.simulate(9), 2);
    }

    private static void faultsOfChanges() {
        TurnedBar x = column();
        x.edit(0, 0, 0, 1);
        DUE.is("rapid before any change", x.fault(), 3);
        x.edit(0, 1, 3, 1);
        DUE.is("feed before any change", x.fault(), 3);
        DUE.is("nothing is cut", x.simulate(9), 0);
        x.undo();
        x.edit(3, 2, 0, 0);
        DUE.is("a change too many", x.fault(), 34);
        x.edit(2, 2, 0, 0);
        DUE.is("the first of two", x.fault(), 24);
        x.undo();
        x.choose(0);
        DUE.is("plan()", x.plan(), 5);
        // The second insert is at home again, so that it may go no further up.
        x.edit(2, 2, 0, 0);
        x.edit(3, 0, 3, 1);
        DUE.is("home again", x.fault(), 31);
        x.edit(3, 0, 0, 1);
        DUE.is("no third one", x.fault(), 44);
        DUE.is("simulate(4) ends before it", x.simulate(4), 0);
        otherInserts();
    }

    // Each change takes the next one of the row: what is safe for the first is not for the second.
    private static void otherInserts() {
        TurnedBar x = new TurnedBar();
        x.bar(1, 1, 2);
        x.spot(0, 0, 0);
        x.spot(2, 2, 0);
        x.choose(0);
        x.choose(2);
        DUE.is("plan()", x.plan(), 5);
        x.edit(1, 0, 0, 5);
        x.edit(2, 2, 0, 0);
        x.edit(3, 0, 0, 3);
        x.edit(4, 0, 0, 1);
        DUE.is("the second one in the chuck", x.fault(), 41);
        x.edit(0, 2, 0, 0);
        x.edit(1, 2, 0, 0);
        DUE.is("a third change", x.fault(), 24);
    }

    private static void feedsOfNothing() {
        TurnedBar x = column();
        x.edit(1, 1, 0, 4);
        x.edit(2, 1, 2, 13);
        DUE.is("feeds through nothing", x.fault(), TurnedBar.NONE);
        DUE.is("it cuts all the same", x.simulate(9), 2);
    }

    private static void steps() {
        TurnedBar x = column();
        DUE.is("steps(0)", x.steps(0), 17);
        DUE.is("steps(1)", x.steps(1), 2);
        DUE.is("steps(2)", x.steps(2), 0);
        DUE.is("steps(-1)", x.steps(-1), 0);
        DUE.is("steps(3)", x.steps(3), 0);
        x.edit(1, 1, 0, 40);
        DUE.is("rapid of the trial", x.steps(0), 13);
        DUE.is("feed of the trial, faults or not", x.steps(1), 42);
        x.edit(3, 2, 0, 30);
        DUE.is("a change has none", x.steps(1), 40);
        x.edit(0, 1, 0, 2);
        DUE.is("the first move counts", x.steps(1), 42);
        x.undo();
        DUE.is("rapid again", x.steps(0), 17);
        x.restart();
        DUE.is("rapid without a plan", x.steps(0), 0);
        DUE.is("feed without a plan", x.steps(1), 0);
    }
}
