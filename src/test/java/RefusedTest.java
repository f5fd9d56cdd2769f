import java.util.List;

/**
 * "A call that is refused changes nothing": each kind of refused call, in each kind of state. The calls that only ask
 * are here too, for they change nothing whatever they answer.
 */
public final class RefusedTest {
    private static final Due DUE = new Due();

    private static String state = "";
    private static Same same = null;

    public static void main(String[] args) {
        begin("new", Counted::new);
        refusedInAnyState();
        refusedWithoutPlan();
        chooseIsRefused(0);
        planIsRefused();

        begin("set up", RefusedTest::setUp);
        refusedInAnyState();
        refusedWithoutPlan();
        spotIsRefused(0, -1, 1);
        chooseIsRefused(2);

        begin("with a trial", RefusedTest::withTrial);
        refusedInAnyState();
        refusedWithPlan();
        spotIsRefused(0, 0, 0);
        chooseIsRefused(2);

        begin("all full", RefusedTest::full);
        refusedInAnyState();
        refusedWithPlan();
        for (int insert = 0; insert < 3; insert++) {
            spotIsRefused(insert, 2, 0);
            spotIsRefused(insert, 0, insert);
            chooseIsRefused(insert);
        }

        begin("an insert of the row is cleared", RefusedTest::cleared);
        refusedInAnyState();
        refusedWithoutPlan();
        chooseIsRefused(1);
        planIsRefused();
        DUE.end();
    }

    private static void begin(String name, Same.Maker maker) {
        state = name;
        same = new Same(DUE, name, maker);
    }

    private static Counted setUp() {
        Counted x = new Counted();
        x.bar(3, 4, 6);
        x.profile(1, 1);
        x.profile(2, 2);
        x.spot(0, 0, 0);
        x.spot(0, -1, 1);
        x.spot(1, 0, 1);
        x.choose(1);
        x.choose(0);
        return x;
    }

    /** The trial is not the plan, and the shown stock is neither the whole bar nor what any of the two leaves. */
    private static Counted withTrial() {
        Counted x = setUp();
        x.plan();
        x.simulate(4);
        x.edit(1, 1, 0, 3);
        x.edit(5, 2, 0, 0);
        return x;
    }

    /** Three inserts of eight spots, none with dz 2, and three in the row. */
    private static Counted full() {
        Counted x = new Counted();
        x.bar(8, 12, 11);
        for (int z = 0; z <= 11; z++) {
            x.profile(z, z % 3);
        }
        for (int insert = 0; insert < 3; insert++) {
            for (int i = 0; i < 8; i++) {
                x.spot(insert, i % 3 - 1, i / 3 + insert);
            }
            x.choose(insert);
        }
        x.plan();
        x.simulate(5);
        x.edit(3, 0, 1, 2);
        return x;
    }

    private static Counted cleared() {
        Counted x = withTrial();
        x.clear(1);
        return x;
    }

    private static void refusedInAnyState() {
        barIsRefused();
        profileIsRefused();
        spotOfNoneIsRefused();
        for (int far : someBeyond(0, 2)) {
            none(Ints.call("clear", far), x -> x.clear(far));
            chooseIsRefused(far);
        }
        editIsRefused();
        for (int far : someBelow(0)) {
            none(Ints.call("simulate", far), x -> x.simulate(far));
        }
        asks();
    }

    private static void barIsRefused() {
        for (int far : someBeyond(1, 8)) {
            refused(Ints.call("bar", far, 2, 2), x -> x.bar(far, 2, 2));
        }
        for (int far : someBeyond(1, 12)) {
            refused(Ints.call("bar", 5, far, 2), x -> x.bar(5, far, 2));
        }
        for (int far : someBeyond(0, 12)) {
            refused(Ints.call("bar", 5, 2, far), x -> x.bar(5, 2, far));
        }
    }

    private static void profileIsRefused() {
        for (int far : someBeyond(0, 11)) {
            refused(Ints.call("profile", far, 5), x -> x.profile(far, 5));
        }
        for (int far : someBeyond(0, 8)) {
            refused(Ints.call("profile", 3, far), x -> x.profile(3, far));
        }
    }

    private static void spotOfNoneIsRefused() {
        for (int far : someBeyond(0, 2)) {
            spotIsRefused(far, 1, 1);
        }
        for (int far : someBeyond(-2, 2)) {
            spotIsRefused(0, far, 1);
        }
        for (int far : someBeyond(0, 4)) {
            spotIsRefused(0, 1, far);
        }
    }

    private static void spotIsRefused(int insert, int dz, int dr) {
        refused(Ints.call("spot", insert, dz, dr), x -> x.spot(insert, dz, dr));
    }

    private static void chooseIsRefused(int insert) {
        none(Ints.call("choose", insert), x -> x.choose(insert));
    }

    private static void editIsRefused() {
        for (int far : someBeyond(0, 1999)) {
            refused(Ints.call("edit", far, 0, 0, 1), x -> x.edit(far, 0, 0, 1));
            refused(Ints.call("edit", far, 2, 0, 0), x -> x.edit(far, 2, 0, 0));
        }
        for (int far : someBeyond(0, 2)) {
            refused(Ints.call("edit", 0, far, 0, 1), x -> x.edit(0, far, 0, 1));
        }
        for (int far : someBeyond(0, 3)) {
            refused(Ints.call("edit", 1, 0, far, 1), x -> x.edit(1, 0, far, 1));
        }
        for (int far : someBeyond(1, 40)) {
            refused(Ints.call("edit", 1, 1, 0, far), x -> x.edit(1, 1, 0, far));
        }
    }

    /** Whatever these answer, they ask. */
    private static void asks() {
        same.behind("at(0, 0, 0, 0 .. 3)", x -> {
            for (int what = 0; what <= 3; what++) {
                x.at(0, 0, 0, what);
                x.at(3, 0, 0, what);
                x.at(0, 16, 16, what);
            }
        });
        same.behind("reach()", x -> {
            x.reach(0, 0, 0);
            x.reach(3, 0, 0);
            x.reach(1, 12, 8);
        });
        same.behind("move()", x -> {
            x.move(0, 0);
            x.move(-1, 0);
            x.move(2000, 2);
            x.move(0, 3);
        });
        same.behind("stock()", x -> {
            x.stock(0, 0);
            x.stock(-1, -1);
            x.stock(12, 8);
        });
        same.behind("fault()", Counted::fault);
        same.behind("left()", Counted::left);
        same.behind("steps()", x -> {
            x.steps(0);
            x.steps(1);
            x.steps(2);
        });
    }

    private static void refusedWithoutPlan() {
        for (int n : new int[] {0, 1, 4, Integer.MAX_VALUE}) {
            none(Ints.call("simulate", n), x -> x.simulate(n));
        }
        refused("edit(0, 2, 0, 0)", x -> x.edit(0, 2, 0, 0));
        refused("edit(1, 0, 0, 1)", x -> x.edit(1, 0, 0, 1));
        same.behind("undo() without a plan", Counted::undo);
    }

    /** The move just behind the last one, which the tests of the ranges above leave out. */
    private static void refusedWithPlan() {
        Counted asked = state.equals("with a trial") ? withTrial() : full();
        int moves = 0;
        while (asked.move(moves, 0) != TurnedBar.NONE) {
            moves++;
        }
        int behind = moves;
        DUE.is(state + ": there is a plan", behind > 5, true);
        refused(Ints.call("edit", behind, 0, 0, 1), x -> x.edit(behind, 0, 0, 1));
        refused(Ints.call("edit", behind, 2, 0, 0), x -> x.edit(behind, 2, 0, 0));
    }

    /** plan() answers NONE where there is no plan to be lost, so that nothing changes by it. */
    private static void planIsRefused() {
        none("plan()", Counted::plan);
    }

    /** A call that answers true or false. */
    interface Asked {
        boolean on(Counted x);
    }

    /** A call that answers a number. */
    interface Counting {
        int on(Counted x);
    }

    private static void refused(String name, Asked call) {
        same.behind(name, x -> DUE.is(state + ": " + name, call.on(x), false));
    }

    private static void none(String name, Counting call) {
        same.behind(name, x -> DUE.is(state + ": " + name, call.on(x), TurnedBar.NONE));
    }

    private static List<Integer> someBeyond(int least, int most) {
        return List.of(least - 1, most + 1, Integer.MIN_VALUE, Integer.MAX_VALUE);
    }

    private static List<Integer> someBelow(int least) {
        return List.of(least - 1, Integer.MIN_VALUE);
    }
}
