/** The edges of promises 8 and 9: at, reach. */
public final class PositionEdgeTest {
    private static final Due DUE = new Due();

    public static void main(String[] args) {
        noSuchInsert();
        noSuchPosition();
        noSuchWhat();
        cornersOfThePositions();
        coversOfTheWholeBar();
        coversThoughItIsNotSafe();
        reachOfNoSuchInsert();
        reachOfNoSuchCell();
        reachAtTheProfile();
        reachAtTheChuck();
        reachFromBesideTheBar();
        reachOfTheInsertAlone();
        reachOfWhatIsNotOfTheBar();
        DUE.end();
    }

    /** Promise 8: "false when there is no such insert": also for what is true of an insert without spots. */
    private static void noSuchInsert() {
        Counted x = withSpots();
        for (int what = 0; what <= 2; what++) {
            for (int insert = 0; insert <= 1; insert++) {
                DUE.is(Ints.call("at", insert, 0, 0, what), x.at(insert, 0, 0, what), true);
            }
            DUE.is(Ints.call("at", 2, 0, 0, what), x.at(2, 0, 0, what), what == 0);
            for (int far : Ints.beyond(0, 2)) {
                DUE.is(Ints.call("at", far, 0, 0, what), x.at(far, 0, 0, what), false);
            }
        }
    }

    /** Promise 8: false when there is no such "position" */
    private static void noSuchPosition() {
        for (int insert = 0; insert <= 2; insert += 2) {
            for (int what = 0; what <= 2; what++) {
                Counted x = withSpots();
                for (int far : Ints.beyond(-4, 15)) {
                    DUE.is(Ints.call("at", insert, far, 0, what), x.at(insert, far, 0, what), false);
                    DUE.is(Ints.call("at", insert, far, far, what), x.at(insert, far, far, what), false);
                }
                for (int far : Ints.beyond(0, 15)) {
                    DUE.is(Ints.call("at", insert, 0, far, what), x.at(insert, 0, far, what), false);
                }
            }
        }
    }

    /** Promise 8: false when there is no such "what" */
    private static void noSuchWhat() {
        Counted x = withSpots();
        for (int far : Ints.beyond(0, 2)) {
            DUE.is(Ints.call("at", 0, 0, 0, far), x.at(0, 0, 0, far), false);
            DUE.is(Ints.call("at", 2, 0, 0, far), x.at(2, 0, 0, far), false);
        }
    }

    /** "(z -4 .. 15, r 0 .. 15)": the positions at the ends are positions in all that is asked. */
    private static void cornersOfThePositions() {
        Counted x = new Counted();
        x.bar(8, 12, 12);
        x.spot(0, -2, 0);
        x.spot(1, 2, 0);
        DUE.is("least z, greatest r", x.at(0, -4, 15, 1), true);
        DUE.is("least z, least r", x.at(0, -4, 0, 1), true);
        DUE.is("the last z before the chuck, greatest r", x.at(0, 13, 15, 1), true);
        DUE.is("the last z before the chuck, least r", x.at(0, 13, 0, 1), true);
        DUE.is("the first z in the chuck", x.at(0, 14, 15, 1), false);
        DUE.is("the greatest z, without spots", x.at(2, 15, 15, 0), true);
        DUE.is("covers the last cell", x.at(0, 13, 7, 2), true);
        DUE.is("covers the first cell from before the bar", x.at(1, -2, 0, 2), true);
        DUE.is("covers none from home", x.at(1, -4, 15, 2), false);
        DUE.is("covers none at r 8", x.at(1, -2, 8, 2), false);
    }

    /** Promise 8: "a cell of the whole bar there that is not to stay": whatever a simulate() has cut. */
    private static void coversOfTheWholeBar() {
        Counted x = withSpots();
        x.choose(0);
        x.plan();
        DUE.is("simulate(2000)", x.simulate(2000), 2);
        DUE.is("it is cut", x.stock(0, 1), false);
        DUE.is("and still of the whole bar", x.at(0, 0, 1, 2), true);
        x.profile(0, 1);
        DUE.is("the one that is not to stay", x.at(0, 0, 1, 2), true);
        DUE.is("the one that is to stay", x.at(0, 0, 0, 2), false);
        x.profile(0, 2);
        DUE.is("now both are", x.at(0, 0, 1, 2), false);
        DUE.is("no cell of the bar", x.at(0, 0, 2, 2), false);
    }

    /** Promise 8, what 2, asks for what is covered alone: in the chuck and with a spot in the profile too. */
    private static void coversThoughItIsNotSafe() {
        Counted x = new Counted();
        x.bar(4, 4, 2);
        x.profile(0, 2);
        x.spot(0, 0, 0);
        x.spot(0, 0, 2);
        DUE.is("in the chuck: safe", x.at(0, 3, 0, 0), false);
        DUE.is("in the chuck: in reach", x.at(0, 3, 0, 1), false);
        DUE.is("in the chuck: covers", x.at(0, 3, 0, 2), true);
        DUE.is("in the profile: safe", x.at(0, 0, 1, 0), false);
        DUE.is("in the profile: in reach", x.at(0, 0, 1, 1), false);
        DUE.is("in the profile: covers", x.at(0, 0, 1, 2), true);
        x.profile(0, 4);
        DUE.is("all in the profile: covers", x.at(0, 0, 1, 2), false);
    }

    /** Promise 9: an insert that there is not could cut no cell. */
    private static void reachOfNoSuchInsert() {
        Counted x = withSpots();
        DUE.is("reach(0, 0, 0)", x.reach(0, 0, 0), true);
        DUE.is("reach(1, 0, 0)", x.reach(1, 0, 0), true);
        DUE.is("reach(2, 0, 0) without spots", x.reach(2, 0, 0), false);
        for (int far : Ints.beyond(0, 2)) {
            DUE.is(Ints.call("reach", far, 0, 0), x.reach(far, 0, 0), false);
        }
    }

    /** Promise 9: what is no cell cannot be cut, though a spot comes there. */
    private static void reachOfNoSuchCell() {
        Counted x = withSpots();
        DUE.is("reach(0, 11, 7)", x.reach(0, 11, 7), true);
        DUE.is("at(0, -1, 0, 1)", x.at(0, -1, 0, 1), true);
        DUE.is("reach(0, -1, 0)", x.reach(0, -1, 0), false);
        DUE.is("at(0, 0, 8, 1)", x.at(0, 0, 8, 1), true);
        DUE.is("reach(0, 0, 8)", x.reach(0, 0, 8), false);
        for (int far : Ints.beyond(0, 11)) {
            DUE.is(Ints.call("reach", 0, far, far), x.reach(0, far, far), false);
            DUE.is(Ints.call("reach", 1, far, 7), x.reach(1, far, 7), false);
        }
    }

    /** Promise 9 at a profile: the cell over it, the one in it, and a groove as wide as the insert or not. */
    private static void reachAtTheProfile() {
        Counted x = new Counted();
        x.bar(8, 12, 12);
        x.profile(3, 5);
        x.profile(6, 5);
        x.spot(0, 0, 0);
        x.spot(0, 1, 0);
        x.spot(1, -1, 0);
        x.spot(1, 0, 0);
        x.spot(1, 1, 0);
        DUE.is("two wide, in the groove", x.reach(0, 4, 0), true);
        DUE.is("two wide, its other end", x.reach(0, 5, 0), true);
        DUE.is("three wide, in the groove", x.reach(1, 4, 4), false);
        DUE.is("three wide, over the groove", x.reach(1, 4, 5), true);
        DUE.is("over the wall", x.reach(0, 3, 5), true);
        DUE.is("in the wall", x.reach(0, 3, 4), false);
        x.profile(3, 8);
        DUE.is("a wall of all cells", x.reach(0, 3, 7), false);
        DUE.is("behind that wall", x.reach(0, 4, 0), true);
    }

    /** Promise 9 at the chuck: a spot to the right keeps the others away from it. */
    private static void reachAtTheChuck() {
        for (int chuck = 0; chuck <= 12; chuck++) {
            Counted x = new Counted();
            x.bar(8, 12, chuck);
            x.spot(0, 0, 0);
            x.spot(1, 0, 0);
            x.spot(1, 2, 4);
            for (int z = 0; z <= 11; z++) {
                DUE.is("chuck " + chuck + ": " + Ints.call("reach", 0, z, 0), x.reach(0, z, 0), z < chuck);
                DUE.is("chuck " + chuck + ": " + Ints.call("reach", 1, z, 0), x.reach(1, z, 0), z < chuck - 2);
                DUE.is("chuck " + chuck + ": " + Ints.call("reach", 1, z, 4), x.reach(1, z, 4), z < chuck);
            }
        }
    }

    /** Promise 9: "at some position": also at one before z 0 or beyond z 11. */
    private static void reachFromBesideTheBar() {
        Counted x = new Counted();
        x.bar(8, 12, 12);
        for (int z = 0; z <= 10; z++) {
            x.profile(z, 8);
        }
        x.spot(0, -2, 0);
        DUE.is("the last column from z 13", x.reach(0, 11, 0), true);
        DUE.is("the column before", x.reach(0, 10, 7), false);
        x.profile(0, 0);
        x.profile(11, 8);
        x.spot(1, 2, 0);
        x.spot(1, -2, 0);
        DUE.is("the first column from z -2", x.reach(1, 0, 0), true);
        DUE.is("the last column", x.reach(1, 11, 7), false);
    }

    /** Promise 9: "an insert alone": what the plan of the job leaves, or has cut, is no matter. */
    private static void reachOfTheInsertAlone() {
        Counted x = withSpots();
        DUE.is("without a job", x.reach(0, 0, 0), true);
        x.choose(0);
        x.plan();
        x.simulate(9);
        DUE.is("cut by now", x.stock(0, 0), false);
        DUE.is("it could cut it", x.reach(0, 0, 0), true);
        DUE.is("so could one that is not in the row", x.reach(1, 0, 0), true);
    }

    /** Promise 9 asks of a cell only that it is covered: it need not be of the bar. */
    private static void reachOfWhatIsNotOfTheBar() {
        Counted x = withSpots();
        DUE.is("over the bar", x.reach(0, 0, 2), true);
        DUE.is("beyond the bar", x.reach(0, 1, 0), true);
        x.profile(1, 1);
        DUE.is("beyond the bar, in the profile", x.reach(0, 1, 0), false);
    }

    /** A bar of two cells; inserts 0 and 1 have a spot in the middle, insert 2 has none. */
    private static Counted withSpots() {
        Counted x = new Counted();
        x.bar(2, 1, 12);
        x.spot(0, 0, 0);
        x.spot(1, 0, 0);
        return x;
    }
}
