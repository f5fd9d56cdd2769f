/** The edges of the section "Terms": cells, bar, chuck, profile, inserts, spots, positions, holders, reach. */
public final class TermsEdgeTest {
    private static final Due DUE = new Due();

    public static void main(String[] args) {
        cellsOfStock();
        cellsOfReach();
        cellsOfTheBar();
        chuckFromEachPlaceOn();
        chuckBeyondTheCells();
        barInTheChuck();
        profileOfEachRadius();
        profileOfEachPlace();
        profileBesideTheBar();
        noProfileBelowZero();
        positions();
        safeWithoutSpots();
        nothingElseWithoutSpots();
        coversItsSpotsAlone();
        holderCutsNothing();
        holderFurtherOut();
        eachSpotOfAnInsertCounts();
        homeIsInReach();
        whatIsSafeIsInReach();
        DUE.end();
    }

    /** "CELLS are at z, r: z 0 .. 11 along the bar, r 0 .. 7 outwards from its middle." */
    private static void cellsOfStock() {
        Counted x = new Counted();
        x.bar(8, 12, 12);
        for (int z = -3; z <= 14; z++) {
            for (int r = -3; r <= 10; r++) {
                DUE.is(Ints.call("stock", z, r), x.stock(z, r), isCell(z, r));
            }
        }
        for (int far : Ints.beyond(0, 11)) {
            DUE.is(Ints.call("stock", far, 0), x.stock(far, 0), false);
        }
        for (int far : Ints.beyond(0, 7)) {
            DUE.is(Ints.call("stock", 0, far), x.stock(0, far), false);
        }
    }

    /** The same for reach(): with one spot and no profile each cell can be come to, and nothing else is a cell. */
    private static void cellsOfReach() {
        Counted x = withOneSpot(8, 12, 12);
        for (int z = -3; z <= 14; z++) {
            for (int r = -3; r <= 10; r++) {
                DUE.is(Ints.call("reach", 0, z, r), x.reach(0, z, r), isCell(z, r));
            }
        }
        for (int far : Ints.beyond(0, 11)) {
            DUE.is(Ints.call("reach", 0, far, 0), x.reach(0, far, 0), false);
        }
        for (int far : Ints.beyond(0, 7)) {
            DUE.is(Ints.call("reach", 0, 0, far), x.reach(0, 0, far), false);
        }
    }

    /** "its cells are those with r below the radius and z below the length" */
    private static void cellsOfTheBar() {
        for (int radius = 1; radius <= 8; radius++) {
            for (int length = 1; length <= 12; length++) {
                Counted x = withOneSpot(radius, length, 12);
                String bar = Ints.call("bar", radius, length, 12) + ": ";
                DUE.is(bar + "first", x.stock(0, 0), true);
                DUE.is(bar + "last", x.stock(length - 1, radius - 1), true);
                DUE.is(bar + "at the length", x.stock(length, radius - 1), false);
                DUE.is(bar + "at the radius", x.stock(length - 1, radius), false);
                DUE.is(bar + "last covered", x.at(0, length - 1, radius - 1, 2), true);
                DUE.is(bar + "covered at the length", x.at(0, length, radius - 1, 2), false);
                DUE.is(bar + "covered at the radius", x.at(0, length - 1, radius, 2), false);
                DUE.is(bar + "plan()", x.plan() > 1, true);
                DUE.is(bar + "each cell is cut once", x.simulate(2000), radius * length);
            }
        }
    }

    /** "the CHUCK holds it from some z on (0 .. 12): all places with z from there on ... at any r, are chuck" */
    private static void chuckFromEachPlaceOn() {
        for (int chuck = 0; chuck <= 12; chuck++) {
            Counted x = withOneSpot(8, 12, chuck);
            for (int z = -4; z <= 15; z++) {
                for (int r = 0; r <= 15; r++) {
                    DUE.is("chuck " + chuck + ": " + Ints.call("at", 0, z, r, 0), x.at(0, z, r, 0), z < chuck);
                }
            }
        }
    }

    /** "also beyond 11, at any r": the places of a holder go up to z 17 and, where it begins, r 19. */
    private static void chuckBeyondTheCells() {
        Counted x = withOneSpot(1, 1, 12);
        x.spot(1, 2, 4);
        x.spot(2, -2, 4);
        for (int z = 8; z <= 15; z++) {
            for (int r = 0; r <= 15; r += 5) {
                DUE.is(Ints.call("at", 0, z, r, 0), x.at(0, z, r, 0), z <= 11);
                DUE.is(Ints.call("at", 1, z, r, 0), x.at(1, z, r, 0), z <= 9);
                DUE.is(Ints.call("at", 2, z, r, 0), x.at(2, z, r, 0), z <= 13);
            }
        }
    }

    /** The bar's cells in the chuck are cells of the bar, which no insert can come to. */
    private static void barInTheChuck() {
        Counted x = withOneSpot(2, 6, 4);
        DUE.is("stock(5, 1)", x.stock(5, 1), true);
        DUE.is("covered", x.at(0, 5, 1, 2), true);
        DUE.is("reach(0, 3, 0)", x.reach(0, 3, 0), true);
        DUE.is("reach(0, 4, 0)", x.reach(0, 4, 0), false);
        x.plan();
        DUE.is("left()", x.left(), 4);
        DUE.is("simulate(2000)", x.simulate(2000), 8);
        DUE.is("stock(3, 1)", x.stock(3, 1), false);
        DUE.is("stock(4, 1)", x.stock(4, 1), true);
    }

    /** "The PROFILE is a radius for each z (0 .. 8 ...): a cell with r below that is to stay." */
    private static void profileOfEachRadius() {
        for (int z = 0; z <= 11; z++) {
            for (int radius = 0; radius <= 8; radius++) {
                Counted x = withOneSpot(8, 12, 12);
                String profile = Ints.call("profile", z, radius);
                DUE.is(profile, x.profile(z, radius), true);
                for (int r = 0; r <= 9; r++) {
                    DUE.is(profile + ", safe at " + r, x.at(0, z, r, 0), r >= radius);
                    DUE.is(profile + ", to be cut at " + r, x.at(0, z, r, 2), r >= radius && r < 8);
                    DUE.is(profile + ", reached at " + r, x.reach(0, z, r), r >= radius && r < 8);
                }
            }
        }
    }

    /** "a radius for each z (... at first 0)": one is set, all others stay as they were. */
    private static void profileOfEachPlace() {
        for (int set = 0; set <= 11; set++) {
            Counted x = withOneSpot(8, 12, 12);
            for (int z = 0; z <= 11; z++) {
                DUE.is("at first, safe at " + z, x.at(0, z, 0, 0), true);
            }
            x.profile(set, 8);
            for (int z = 0; z <= 11; z++) {
                DUE.is("profile at " + set + ", safe at " + z, x.at(0, z, 7, 0), z != set);
            }
        }
    }

    /** The profile is for each z, whether the bar is there or not, and reaches further out than a thin bar. */
    private static void profileBesideTheBar() {
        Counted x = withOneSpot(1, 1, 12);
        x.profile(0, 3);
        x.profile(11, 8);
        DUE.is("over the bar, in the profile", x.at(0, 0, 2, 0), false);
        DUE.is("over both", x.at(0, 0, 3, 0), true);
        DUE.is("beyond the bar, in the profile", x.at(0, 11, 7, 0), false);
        DUE.is("beyond the bar, over it", x.at(0, 11, 8, 0), true);
    }

    /** "there is no profile at z below 0" */
    private static void noProfileBelowZero() {
        Counted x = withOneSpot(8, 12, 12);
        x.spot(1, -2, 0);
        x.spot(2, 2, 0);
        for (int z = 0; z <= 11; z++) {
            x.profile(z, 8);
        }
        for (int z = -4; z <= 3; z++) {
            DUE.is(Ints.call("at", 0, z, 0, 0), x.at(0, z, 0, 0), z < 0);
            DUE.is(Ints.call("at", 1, z, 0, 0), x.at(1, z, 0, 0), z - 2 < 0);
            DUE.is(Ints.call("at", 2, z, 0, 0), x.at(2, z, 0, 0), z + 2 < 0);
            DUE.is(Ints.call("at", 2, z, 8, 0), x.at(2, z, 8, 0), true);
        }
    }

    /** "At a POSITION z, r (z -4 .. 15, r 0 .. 15)"; at each one an insert without spots is safe. */
    private static void positions() {
        Counted x = new Counted();
        for (int z = -6; z <= 17; z++) {
            for (int r = -2; r <= 17; r++) {
                DUE.is(Ints.call("at", 1, z, r, 0), x.at(1, z, r, 0), isPosition(z, r));
            }
        }
        // By its spots it would cover a cell from there, if there were such a position.
        Counted y = new Counted();
        y.bar(8, 12, 12);
        y.spot(0, 0, 4);
        for (int what = 0; what <= 2; what++) {
            DUE.is(Ints.call("at", 0, 3, 0, what), y.at(0, 3, 0, what), true);
            DUE.is(Ints.call("at", 0, 3, -1, what), y.at(0, 3, -1, what), false);
        }
        DUE.is("reach(0, 3, 4)", y.reach(0, 3, 4), true);
        DUE.is("reach(0, 3, 3)", y.reach(0, 3, 3), false);
    }

    /** "(so each one for an insert without spots)": also in the profile, and in the chuck. */
    private static void safeWithoutSpots() {
        Counted x = new Counted();
        x.bar(8, 12, 0);
        x.profile(3, 8);
        for (int z = -4; z <= 15; z++) {
            for (int r = 0; r <= 15; r++) {
                DUE.is(Ints.call("at", 2, z, r, 0), x.at(2, z, r, 0), true);
            }
        }
        x.spot(2, 0, 0);
        DUE.is("with a spot", x.at(2, 3, 3, 0), false);
        x.clear(2);
        DUE.is("without it again", x.at(2, 3, 3, 0), true);
    }

    /** "A position is in REACH of an insert that has spots"; without any it covers nothing either. */
    private static void nothingElseWithoutSpots() {
        Counted x = new Counted();
        x.bar(8, 12, 12);
        for (int z = -4; z <= 15; z += 1) {
            for (int r = 0; r <= 15; r += 5) {
                DUE.is(Ints.call("at", 0, z, r, 1), x.at(0, z, r, 1), false);
                DUE.is(Ints.call("at", 0, z, r, 2), x.at(0, z, r, 2), false);
            }
        }
        for (int z = 0; z <= 11; z++) {
            for (int r = 0; r <= 7; r++) {
                DUE.is(Ints.call("reach", 0, z, r), x.reach(0, z, r), false);
            }
        }
        x.spot(0, 0, 0);
        DUE.is("home with a spot", x.at(0, -4, 15, 1), true);
        DUE.is("reach with a spot", x.reach(0, 11, 7), true);
        x.clear(0);
        DUE.is("home without it again", x.at(0, -4, 15, 1), false);
        DUE.is("reach without it again", x.reach(0, 11, 7), false);
    }

    /** "it COVERS the cells z + dz, r + dr of its spots": not what its holder is at, and nothing before cell 0. */
    private static void coversItsSpotsAlone() {
        Counted x = new Counted();
        x.bar(8, 1, 12);
        x.profile(0, 4);
        x.spot(0, -2, 1);
        for (int r = 0; r <= 8; r++) {
            DUE.is(Ints.call("at", 0, 2, r, 2), x.at(0, 2, r, 2), r + 1 >= 4 && r + 1 <= 7);
            DUE.is(Ints.call("at", 0, 1, r, 2), x.at(0, 1, r, 2), false);
            DUE.is(Ints.call("at", 0, 3, r, 2), x.at(0, 3, r, 2), false);
        }
    }

    /** "feeds cut what they cover": a feed from the side cuts under the stock that the holder is at. */
    private static void holderCutsNothing() {
        Counted x = withOneSpot(8, 1, 12);
        DUE.is("plan()", x.plan(), 4);
        x.edit(1, 0, 0, 3);
        x.edit(2, 0, 2, 15);
        x.edit(3, 1, 0, 1);
        DUE.is("stock is no place that is not safe", x.fault(), TurnedBar.NONE);
        DUE.is("one cell", x.simulate(4), 1);
        DUE.is("the covered one", x.stock(0, 0), false);
        DUE.is("the one over it", x.stock(0, 1), true);
        DUE.is("the outermost one", x.stock(0, 7), true);
    }

    /** "its HOLDER is at all z + dz, r + dr and further out": what is further in is not in its way. */
    private static void holderFurtherOut() {
        Counted x = new Counted();
        x.bar(8, 12, 12);
        x.profile(5, 3);
        x.spot(0, 0, 4);
        DUE.is("its place is over the profile, the position is not", x.at(0, 5, 0, 0), true);
        x.profile(5, 4);
        DUE.is("just over it", x.at(0, 5, 0, 0), true);
        x.profile(5, 5);
        DUE.is("just in it", x.at(0, 5, 0, 0), false);
        DUE.is("one further out", x.at(0, 5, 1, 0), true);
        // A profile is all that is below a radius: a holder whose innermost place is out of it is out of it
        // altogether, so that only the chuck can be seen to meet what is further out, and it is at any r.
        x.bar(8, 12, 5);
        DUE.is("in the chuck at r 19", x.at(0, 5, 15, 0), false);
    }

    /** "of its spots": each one counts, the first and the eighth. */
    private static void eachSpotOfAnInsertCounts() {
        int[][] spots = {{0, 3}, {0, 4}, {1, 3}, {1, 4}, {2, 3}, {2, 4}, {-1, 3}, {-2, 3}};
        Counted x = new Counted();
        x.bar(8, 12, 12);
        x.profile(6, 5);
        for (int[] spot : spots) {
            x.spot(0, spot[0], spot[1]);
        }
        for (int z = 2; z <= 9; z++) {
            DUE.is(Ints.call("at", 0, z, 1, 0), x.at(0, z, 1, 0), z < 4 || z > 8);
            DUE.is(Ints.call("at", 0, z, 2, 0), x.at(0, z, 2, 0), true);
        }
        Counted y = new Counted();
        y.bar(4, 1, 12);
        for (int[] spot : spots) {
            y.spot(0, spot[0], spot[1]);
        }
        for (int z = -4; z <= 4; z++) {
            DUE.is(Ints.call("at", 0, z, 0, 2), y.at(0, z, 0, 2), z >= -2 && z <= 2);
            DUE.is(Ints.call("at", 0, z, 1, 2), y.at(0, z, 1, 2), false);
        }
    }

    /** "HOME is the position -4, 15": it is safe whatever was set up, for no spot goes from there to z 0. */
    private static void homeIsInReach() {
        Counted x = new Counted();
        x.bar(8, 12, 0);
        x.profile(0, 8);
        x.spot(0, 2, 0);
        x.spot(0, 2, 4);
        DUE.is("home is safe", x.at(0, -4, 15, 0), true);
        DUE.is("home is in reach", x.at(0, -4, 15, 1), true);
        DUE.is("the last one before the chuck", x.at(0, -3, 15, 1), true);
        DUE.is("the first one in the chuck", x.at(0, -2, 15, 1), false);
        DUE.is("the lowest one", x.at(0, -4, 0, 1), true);
    }

    /**
     * "when one can come there from home by steps over safe positions": no calls lead to a safe position that an
     * insert with spots cannot come to. From a safe one all further out are safe, for the profile is below a radius;
     * at r 15 no profile is in the way; and less z leads out of the chuck, never into it.
     */
    private static void whatIsSafeIsInReach() {
        for (int insert = 0; insert < 3; insert++) {
            for (int z = -4; z <= 15; z++) {
                Counted x = grooved();
                for (int r = 0; r <= 15; r++) {
                    String at = Ints.call("at", insert, z, r, 1);
                    DUE.is(at, x.at(insert, z, r, 1), x.at(insert, z, r, 0));
                }
            }
        }
    }

    private static Counted grooved() {
        Counted x = new Counted();
        x.bar(8, 12, 11);
        int[] radii = {3, 0, 8, 1, 6, 0, 0, 6, 2, 0, 7, 4};
        for (int z = 0; z < radii.length; z++) {
            x.profile(z, radii[z]);
        }
        x.spot(0, 0, 0);
        x.spot(1, -2, 0);
        x.spot(1, 1, 2);
        x.spot(2, 2, 4);
        x.spot(2, 0, 1);
        return x;
    }

    private static Counted withOneSpot(int radius, int length, int chuck) {
        Counted x = new Counted();
        x.bar(radius, length, chuck);
        x.spot(0, 0, 0);
        x.choose(0);
        return x;
    }

    private static boolean isCell(int z, int r) {
        return z >= 0 && z <= 11 && r >= 0 && r <= 7;
    }

    private static boolean isPosition(int z, int r) {
        return z >= -4 && z <= 15 && r >= 0 && r <= 15;
    }
}
