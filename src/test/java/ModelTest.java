/** All promises: runs of many calls, each answer compared with the one of the slow model. */
public final class ModelTest {
    private static final int RUNS = 80;
    private static final int MOST_CALLS = 512;
    private static final Due DUE = new Due();

    private final int run;
    private final TurnedBar x = new TurnedBar();
    private final Model model = new Model();
    private long seed;
    private int calls = 0;

    private ModelTest(int run) {
        this.run = run;
        seed = 88172645463325252L + 7919L * run;
    }

    public static void main(String[] args) {
        int runs = args.length > 0 ? Integer.parseInt(args[0]) : RUNS;
        for (int run = 0; run < runs && !DUE.isWrong(); run++) {
            new ModelTest(run).go();
        }
        DUE.end();
    }

    // A fixed row of numbers, so that the same calls are made each time.
    private int below(int bound) {
        seed ^= seed << 13;
        seed ^= seed >>> 7;
        seed ^= seed << 17;
        return (int) Math.floorMod(seed >>> 16, (long) bound);
    }

    /** Mostly a number of the range, at times one just beyond it, and now and then the least or the greatest of all. */
    private int near(int least, int most) {
        if (below(60) == 0) {
            return below(2) == 0 ? Integer.MIN_VALUE : Integer.MAX_VALUE;
        }
        return below(12) == 0 ? least - 1 + below(most - least + 3) : least + below(most - least + 1);
    }

    private void go() {
        if (run % 4 == 3) {
            goInAnyOrder();
        } else {
            goAsOneWould();
        }
        if (calls > MOST_CALLS) {
            throw new IllegalStateException("too many calls in a run: " + calls);
        }
    }

    private void goAsOneWould() {
        for (int round = 0; round < 4 && !DUE.isWrong(); round++) {
            setUp();
            planAndLook();
            for (int i = 0; i < 40; i++) {
                tryOut();
            }
        }
    }

    /** Here a plan is dropped at any time, by any call that does so, and what is asked next may need one. */
    private void goInAnyOrder() {
        while (calls < MOST_CALLS - 2 && !DUE.isWrong()) {
            switch (below(80)) {
                case 0 -> bar(near(1, 8), near(1, 12), below(2) == 0 ? 12 : near(0, 12));
                case 1 -> profile(near(0, 11), below(2) == 0 ? 0 : near(0, 8));
                case 2, 3 -> spot(near(0, 2), near(-2, 2), near(0, 4));
                case 4 -> clear(near(0, 8));
                case 5, 6, 7 -> choose(near(0, 2));
                case 8, 9, 10, 11, 12, 13 -> due("plan()", x.plan(), model.plan());
                default -> tryOut();
            }
        }
    }

    private void due(String call, int got, int want) {
        calls++;
        DUE.is("run " + run + ", call " + calls + ": " + call, got, want);
    }

    private void due(String call, boolean got, boolean want) {
        due(call, got ? 1 : 0, want ? 1 : 0);
    }

    private void setUp() {
        bar(below(4) == 0 ? near(1, 8) : 3 + below(6), below(4) == 0 ? near(1, 12) : 4 + below(9), 12 - below(below(3) + 1) * 2);
        for (int i = below(9); i > 0; i--) {
            profile(near(0, 11), below(4) == 0 ? near(0, 8) : below(5));
        }
        if (below(2) == 0) {
            clear(near(0, 2));
        }
        for (int insert = 0; insert < 3; insert++) {
            int wide = 1 + below(2);
            for (int i = below(below(4) == 0 ? 9 : 4); i > 0; i--) {
                spot(near(insert, insert), below(2 * wide + 1) - wide, near(0, below(5)));
            }
        }
        if (below(2) == 0) {
            restart();
        }
        for (int i = 1 + below(3); i > 0; i--) {
            choose(near(0, 2));
        }
    }

    private void planAndLook() {
        int moves = model.plan();
        due("plan()", x.plan(), moves);
        look(moves);
    }

    private void look(int moves) {
        for (int i = 0; i < 25; i++) {
            int which = moves <= 25 ? i : below(moves);
            due("move(" + which + ", 0)", x.move(which, 0), model.move(which, 0));
            int what = 1 + below(2);
            due("move(" + which + ", " + what + ")", x.move(which, what), model.move(which, what));
        }
        due("left()", x.left(), model.left());
        due("fault()", x.fault(), model.fault());
        due("steps(0)", x.steps(0), model.steps(0));
        due("steps(1)", x.steps(1), model.steps(1));
    }

    private void tryOut() {
        switch (below(16)) {
            case 0, 1, 2 -> edit();
            case 3, 4 -> due("fault()", x.fault(), model.fault());
            case 5, 6 -> simulate();
            case 7 -> stock();
            case 8 -> {
                int kind = near(0, 2);
                due("steps(" + kind + ")", x.steps(kind), model.steps(kind));
            }
            case 9, 10, 11 -> at();
            case 12 -> reach();
            case 13 -> due("left()", x.left(), model.left());
            case 14 -> move();
            default -> {
                if (below(3) == 0) {
                    due("undo()", x.undo(), model.undo());
                } else if (below(6) == 0) {
                    restart();
                } else if (below(4) == 0) {
                    choose(near(0, 2));
                } else {
                    due("plan()", x.plan(), model.plan());
                }
            }
        }
    }

    private void bar(int radius, int length, int chuck) {
        due("bar(" + radius + ", " + length + ", " + chuck + ")", x.bar(radius, length, chuck), model.bar(radius, length, chuck));
    }

    private void profile(int z, int r) {
        due("profile(" + z + ", " + r + ")", x.profile(z, r), model.profile(z, r));
    }

    private void spot(int insert, int dz, int dr) {
        due("spot(" + insert + ", " + dz + ", " + dr + ")", x.spot(insert, dz, dr), model.spot(insert, dz, dr));
    }

    private void clear(int insert) {
        due("clear(" + insert + ")", x.clear(insert), model.clear(insert));
    }

    private void choose(int insert) {
        due("choose(" + insert + ")", x.choose(insert), model.choose(insert));
    }

    private void restart() {
        due("restart()", x.restart(), model.restart());
    }

    private void move() {
        int i = near(0, 8);
        int what = near(0, 2);
        due("move(" + i + ", " + what + ")", x.move(i, what), model.move(i, what));
    }

    private void edit() {
        int i = below(10) == 0 ? near(0, 30) : below(6);
        int kind = near(0, 2);
        int direction = near(0, 3);
        int steps = below(8) == 0 ? near(1, 40) : near(1, 6);
        due("edit(" + i + ", " + kind + ", " + direction + ", " + steps + ")",
            x.edit(i, kind, direction, steps), model.edit(i, kind, direction, steps));
    }

    private void simulate() {
        int n = near(0, 60);
        due("simulate(" + n + ")", x.simulate(n), model.simulate(n));
        stock();
    }

    private void stock() {
        int z = near(0, 11);
        int r = near(0, 7);
        due("stock(" + z + ", " + r + ")", x.stock(z, r), model.stock(z, r));
    }

    private void at() {
        int insert = near(0, 2);
        int z = near(-4, 15);
        int r = below(2) == 0 ? near(0, 15) : near(0, 7);
        int what = near(0, 2);
        due("at(" + insert + ", " + z + ", " + r + ", " + what + ")", x.at(insert, z, r, what), model.at(insert, z, r, what));
    }

    private void reach() {
        int insert = near(0, 2);
        int z = near(0, 11);
        int r = near(0, 7);
        due("reach(" + insert + ", " + z + ", " + r + ")", x.reach(insert, z, r), model.reach(insert, z, r));
    }
}
