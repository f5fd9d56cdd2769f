/** Promises 8 and 9: at, reach. */
public final class PositionTest {
    private static final Due DUE = new Due();

    public static void main(String[] args) {
        safe();
        inReach();
        coversWaste();
        refused();
        reach();
        reachOfMore();
        askingChangesNothing();
        DUE.end();
    }

    private static void safe() {
        TurnedBar x = new TurnedBar();
        x.bar(8, 12, 10);
        x.profile(3, 4);
        x.spot(0, -1, 2);
        x.spot(0, 1, 0);
        DUE.is("left spot in profile", x.at(0, 4, 1, 0), false);
        DUE.is("left spot over profile", x.at(0, 4, 2, 0), true);
        DUE.is("right spot in profile", x.at(0, 2, 3, 0), false);
        DUE.is("right spot over profile", x.at(0, 2, 4, 0), true);
        DUE.is("between the spots", x.at(0, 3, 0, 0), true);
        DUE.is("right spot in the chuck", x.at(0, 9, 15, 0), false);
        DUE.is("right spot before the chuck", x.at(0, 8, 15, 0), true);
        DUE.is("left of all", x.at(0, -4, 0, 0), true);
        DUE.is("without spots, in profile", x.at(1, 3, 0, 0), true);
        DUE.is("without spots, in the chuck", x.at(1, 15, 15, 0), true);
        x.spot(2, 0, 0);
        x.profile(0, 8);
        DUE.is("no profile below 0", x.at(2, -1, 0, 0), true);
        x.bar(1, 1, 12);
        DUE.is("profile beyond the bar", x.at(2, 3, 3, 0), false);
        x.bar(1, 1, 0);
        DUE.is("chuck from 0 on", x.at(2, 0, 15, 0), false);
        DUE.is("before it", x.at(2, -1, 0, 0), true);
    }

    private static void inReach() {
        TurnedBar x = new TurnedBar();
        x.bar(8, 12, 11);
        x.profile(4, 8);
        x.spot(0, 0, 0);
        x.spot(1, -2, 0);
        DUE.is("home", x.at(0, -4, 15, 1), true);
        DUE.is("behind a wall", x.at(0, 5, 0, 1), true);
        DUE.is("in the wall", x.at(0, 4, 7, 1), false);
        DUE.is("on the wall", x.at(0, 4, 8, 1), true);
        DUE.is("in the chuck", x.at(0, 11, 15, 1), false);
        DUE.is("its middle over the chuck", x.at(1, 12, 15, 1), true);
        DUE.is("its spot in the chuck", x.at(1, 13, 15, 1), false);
        DUE.is("without spots, home", x.at(2, -4, 15, 1), false);
        DUE.is("without spots", x.at(2, 0, 0, 1), false);
    }

    private static void coversWaste() {
        TurnedBar x = new TurnedBar();
        x.bar(5, 6, 4);
        x.profile(2, 3);
        x.spot(0, 0, 0);
        x.spot(1, 0, 1);
        x.spot(1, 2, 4);
        DUE.is("to be cut", x.at(0, 2, 3, 2), true);
        DUE.is("to stay", x.at(0, 2, 2, 2), false);
        DUE.is("outermost", x.at(0, 0, 4, 2), true);
        DUE.is("beyond the radius", x.at(0, 0, 5, 2), false);
        DUE.is("in the chuck", x.at(0, 5, 0, 2), true);
        DUE.is("beyond the length", x.at(0, 6, 0, 2), false);
        DUE.is("before the bar", x.at(0, -1, 0, 2), false);
        DUE.is("by the second spot", x.at(1, -2, 0, 2), true);
        DUE.is("by none", x.at(1, -2, 1, 2), false);
        DUE.is("though it is not safe", x.at(1, 2, 0, 0), false);
        DUE.is("it covers", x.at(1, 2, 0, 2), true);
        DUE.is("without spots", x.at(2, 0, 0, 2), false);
        x.choose(0);
        x.plan();
        x.simulate(2000);
        DUE.is("cut by now", x.stock(0, 4), false);
        DUE.is("the whole bar counts", x.at(0, 0, 4, 2), true);
    }

    private static void refused() {
        TurnedBar x = new TurnedBar();
        x.spot(0, 0, 0);
        for (int what = 0; what <= 2; what++) {
            DUE.is("insert -1", x.at(-1, 0, 0, what), false);
            DUE.is("insert 3", x.at(3, 0, 0, what), false);
            DUE.is("here all hold", x.at(0, 0, 0, what), true);
        }
        DUE.is("what -1", x.at(0, 0, 0, -1), false);
        DUE.is("what 3", x.at(0, 0, 0, 3), false);
        int[][] none = {{-5, 0}, {16, 0}, {0, -1}, {0, 16}, {Integer.MIN_VALUE, 0}, {0, Integer.MAX_VALUE}};
        for (int[] row : none) {
            DUE.is("at(1, " + row[0] + ", " + row[1] + ", 0)", x.at(1, row[0], row[1], 0), false);
            DUE.is("at(0, " + row[0] + ", " + row[1] + ", 1)", x.at(0, row[0], row[1], 1), false);
        }
        int[][] corners = {{-4, 0}, {15, 0}, {-4, 15}, {15, 15}};
        for (int[] row : corners) {
            DUE.is("at(1, " + row[0] + ", " + row[1] + ", 0)", x.at(1, row[0], row[1], 0), true);
        }
    }

    private static void reach() {
        TurnedBar x = new TurnedBar();
        x.bar(8, 12, 9);
        x.profile(5, 3);
        x.spot(0, 0, 0);
        DUE.is("over the profile", x.reach(0, 5, 3), true);
        DUE.is("in the profile", x.reach(0, 5, 2), false);
        DUE.is("before the chuck", x.reach(0, 8, 0), true);
        DUE.is("in the chuck", x.reach(0, 9, 7), false);
        DUE.is("first cell", x.reach(0, 0, 0), true);
        DUE.is("without spots", x.reach(1, 0, 0), false);
        int[][] none = {{-1, 0}, {12, 0}, {0, -1}, {0, 8}};
        for (int[] row : none) {
            DUE.is("reach(0, " + row[0] + ", " + row[1] + ")", x.reach(0, row[0], row[1]), false);
        }
        DUE.is("insert -1", x.reach(-1, 0, 0), false);
        DUE.is("insert 3", x.reach(3, 0, 0), false);
    }

    private static void reachOfMore() {
        TurnedBar x = new TurnedBar();
        x.bar(8, 12, 12);
        x.profile(4, 3);
        x.profile(6, 3);
        x.spot(0, -1, 0);
        x.spot(0, 0, 0);
        x.spot(0, 1, 0);
        DUE.is("too wide for the groove", x.reach(0, 5, 2), false);
        DUE.is("over the groove", x.reach(0, 5, 3), true);
        x.spot(1, 0, 2);
        DUE.is("below what it can come to", x.reach(1, 5, 1), false);
        DUE.is("as low as it can come", x.reach(1, 5, 2), true);
        x.spot(1, 1, 4);
        DUE.is("by its other spot", x.reach(1, 5, 4), true);
        // What is not of the bar is a cell too: the words ask only whether the insert covers it.
        x.bar(1, 1, 12);
        DUE.is("a cell beyond the bar", x.reach(0, 9, 7), true);
    }

    private static void askingChangesNothing() {
        TurnedBar x = new TurnedBar();
        x.bar(2, 1, 12);
        x.spot(0, 0, 0);
        x.choose(0);
        x.plan();
        x.simulate(9);
        x.at(0, 0, 0, 0);
        x.at(0, 0, 0, 1);
        x.at(0, 0, 0, 2);
        x.reach(0, 0, 0);
        DUE.is("the stock stays cut", x.stock(0, 0), false);
        DUE.is("the plan stays", x.left(), 0);
        DUE.is("the moves stay", x.steps(0), 17);
    }
}
