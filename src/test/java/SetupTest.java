/** Promises 1 to 7: a new object, bar, profile, spot, clear, choose, restart. */
public final class SetupTest {
    private static final Due DUE = new Due();

    public static void main(String[] args) {
        newObject();
        bar();
        profile();
        spot();
        clear();
        choose();
        restart();
        whatDropsThePlan();
        whatIsRefusedChangesNothing();
        DUE.end();
    }

    private static void newObject() {
        TurnedBar x = new TurnedBar();
        for (int z = -1; z <= 12; z++) {
            for (int r = -1; r <= 8; r++) {
                DUE.is("new: stock(" + z + ", " + r + ")", x.stock(z, r), z == 0 && r == 0);
            }
        }
        DUE.is("new: restart()", x.restart(), 0);
        for (int insert = 0; insert < 3; insert++) {
            DUE.is("new: choose()", x.choose(insert), TurnedBar.NONE);
            DUE.is("new: clear()", x.clear(insert), 0);
        }
        DUE.is("new: plan()", x.plan(), TurnedBar.NONE);
        withoutPlan("new", x);
        DUE.is("new: spot()", x.spot(0, 0, 0), true);
        for (int z = 0; z < 12; z++) {
            DUE.is("new: no profile at " + z, x.at(0, z, 0, 0), true);
        }
        DUE.is("new: chuck at 12", x.at(0, 12, 15, 0), false);
    }

    private static void bar() {
        TurnedBar x = new TurnedBar();
        DUE.is("bar(3, 5, 4)", x.bar(3, 5, 4), true);
        for (int z = 0; z < 12; z++) {
            for (int r = 0; r < 8; r++) {
                DUE.is("bar(3, 5, 4): stock(" + z + ", " + r + ")", x.stock(z, r), z < 5 && r < 3);
            }
        }
        x.spot(0, 0, 0);
        DUE.is("before the chuck", x.at(0, 3, 15, 0), true);
        DUE.is("in the chuck", x.at(0, 4, 15, 0), false);
        DUE.is("bar(1, 1, 0)", x.bar(1, 1, 0), true);
        DUE.is("chuck 0", x.at(0, 0, 15, 0), false);
        DUE.is("bar(8, 12, 12)", x.bar(8, 12, 12), true);
        DUE.is("the last cell", x.stock(11, 7), true);
        int[][] refused = {
            {0, 1, 1}, {9, 1, 1}, {1, 0, 1}, {1, 13, 1}, {1, 1, -1}, {1, 1, 13},
            {Integer.MIN_VALUE, 1, 1}, {1, Integer.MAX_VALUE, 1}, {1, 1, Integer.MAX_VALUE}};
        for (int[] row : refused) {
            DUE.is("bar(" + row[0] + ", " + row[1] + ", " + row[2] + ")", x.bar(row[0], row[1], row[2]), false);
        }
        DUE.is("the last cell stays", x.stock(11, 7), true);
        DUE.is("the chuck stays", x.at(0, 11, 15, 0), true);
    }

    private static void profile() {
        TurnedBar x = new TurnedBar();
        x.spot(0, 0, 0);
        DUE.is("profile(0, 8)", x.profile(0, 8), true);
        DUE.is("profile(11, 1)", x.profile(11, 1), true);
        DUE.is("in profile 8", x.at(0, 0, 7, 0), false);
        DUE.is("over profile 8", x.at(0, 0, 8, 0), true);
        DUE.is("in profile 1", x.at(0, 11, 0, 0), false);
        DUE.is("over profile 1", x.at(0, 11, 1, 0), true);
        DUE.is("profile(-1, 0)", x.profile(-1, 0), false);
        DUE.is("profile(12, 0)", x.profile(12, 0), false);
        DUE.is("profile(0, -1)", x.profile(0, -1), false);
        DUE.is("profile(0, 9)", x.profile(0, 9), false);
        DUE.is("it stays", x.at(0, 0, 7, 0), false);
        DUE.is("profile(0, 0)", x.profile(0, 0), true);
        DUE.is("it is gone", x.at(0, 0, 0, 0), true);
    }

    private static void spot() {
        TurnedBar x = new TurnedBar();
        int[][] refused = {{-1, 0, 0}, {3, 0, 0}, {0, -3, 0}, {0, 3, 0}, {0, 0, -1}, {0, 0, 5}};
        for (int[] row : refused) {
            DUE.is("spot(" + row[0] + ", " + row[1] + ", " + row[2] + ")", x.spot(row[0], row[1], row[2]), false);
        }
        DUE.is("none was put", x.clear(0), 0);
        int[][] taken = {{-2, 0}, {2, 0}, {-2, 4}, {2, 4}, {0, 0}, {1, 1}, {-1, 1}};
        for (int[] row : taken) {
            DUE.is("spot(2, " + row[0] + ", " + row[1] + ")", x.spot(2, row[0], row[1]), true);
            DUE.is("the same again", x.spot(2, row[0], row[1]), false);
        }
        DUE.is("the same for another", x.spot(1, 0, 0), true);
        DUE.is("the eighth", x.spot(2, 0, 3), true);
        DUE.is("the ninth", x.spot(2, 0, 4), false);
        DUE.is("eight", x.clear(2), 8);
        DUE.is("one", x.clear(1), 1);
    }

    private static void clear() {
        TurnedBar x = new TurnedBar();
        x.spot(0, 0, 0);
        x.spot(0, 1, 0);
        x.spot(1, 0, 0);
        DUE.is("clear(-1)", x.clear(-1), TurnedBar.NONE);
        DUE.is("clear(3)", x.clear(3), TurnedBar.NONE);
        DUE.is("clear(0)", x.clear(0), 2);
        DUE.is("clear(0) again", x.clear(0), 0);
        DUE.is("cleared", x.choose(0), TurnedBar.NONE);
        DUE.is("the other stays", x.choose(1), 1);
        DUE.is("as if new", x.spot(0, 1, 0), true);
    }

    private static void choose() {
        TurnedBar x = new TurnedBar();
        x.spot(0, 0, 0);
        x.spot(2, 0, 0);
        DUE.is("choose(-1)", x.choose(-1), TurnedBar.NONE);
        DUE.is("choose(3)", x.choose(3), TurnedBar.NONE);
        DUE.is("choose(1) without spots", x.choose(1), TurnedBar.NONE);
        DUE.is("choose(2)", x.choose(2), 1);
        DUE.is("choose(2) again", x.choose(2), 2);
        DUE.is("choose(0)", x.choose(0), 3);
        DUE.is("a fourth", x.choose(0), TurnedBar.NONE);
        DUE.is("three", x.restart(), 3);
    }

    private static void restart() {
        TurnedBar x = new TurnedBar();
        x.spot(0, 0, 0);
        x.choose(0);
        DUE.is("restart()", x.restart(), 1);
        DUE.is("restart() again", x.restart(), 0);
        DUE.is("no job", x.plan(), TurnedBar.NONE);
        DUE.is("spots stay", x.choose(0), 1);
        DUE.is("a plan", x.plan(), 4);
    }

    /** A bar whose plan is all cut by a simulate(), so that what becomes of both can be seen. */
    private static TurnedBar withPlan() {
        TurnedBar x = new TurnedBar();
        x.bar(2, 1, 12);
        x.spot(0, 0, 0);
        x.choose(0);
        DUE.is("plan()", x.plan(), 4);
        DUE.is("simulate(9)", x.simulate(9), 2);
        return x;
    }

    private static void withoutPlan(String name, TurnedBar x) {
        DUE.is(name + ": move(0, 0)", x.move(0, 0), TurnedBar.NONE);
        DUE.is(name + ": edit()", x.edit(0, 0, 0, 1), false);
        DUE.is(name + ": undo()", x.undo(), 0);
        DUE.is(name + ": simulate(9)", x.simulate(9), TurnedBar.NONE);
        DUE.is(name + ": fault()", x.fault(), TurnedBar.NONE);
        DUE.is(name + ": left()", x.left(), TurnedBar.NONE);
        DUE.is(name + ": steps(0)", x.steps(0), 0);
        DUE.is(name + ": steps(1)", x.steps(1), 0);
        DUE.is(name + ": stock(0, 0)", x.stock(0, 0), true);
    }

    private static void whatDropsThePlan() {
        TurnedBar x = withPlan();
        x.bar(2, 1, 12);
        withoutPlan("bar", x);
        x = withPlan();
        x.profile(11, 0);
        withoutPlan("profile", x);
        x = withPlan();
        x.spot(2, 0, 0);
        withoutPlan("spot", x);
        x = withPlan();
        DUE.is("clear(1)", x.clear(1), 0);
        withoutPlan("clear", x);
        x = withPlan();
        x.choose(0);
        withoutPlan("choose", x);
        x = withPlan();
        x.restart();
        withoutPlan("restart", x);
    }

    private static void whatIsRefusedChangesNothing() {
        TurnedBar x = withPlan();
        DUE.is("bar refused", x.bar(9, 1, 12), false);
        DUE.is("profile refused", x.profile(0, 9), false);
        DUE.is("spot refused", x.spot(0, 0, 0), false);
        DUE.is("spot of no insert refused", x.spot(3, 0, 0), false);
        DUE.is("clear refused", x.clear(3), TurnedBar.NONE);
        DUE.is("choose refused", x.choose(1), TurnedBar.NONE);
        DUE.is("simulate refused", x.simulate(-1), TurnedBar.NONE);
        DUE.is("the stock stays cut", x.stock(0, 0), false);
        DUE.is("the plan stays", x.left(), 0);
        DUE.move(x, 3, 1, 2, 2);
    }
}
