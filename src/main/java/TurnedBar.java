import java.util.Arrays;

/** Plans how a bar is turned down to a profile by inserts that reach in from outside. */
public final class TurnedBar {
    public static final int NONE = -1;

    private static final int CELL_ZS = 12;
    private static final int CELL_RS = 8;
    private static final int CELLS = CELL_ZS * CELL_RS;

    private static final int LEAST_Z = -4;
    private static final int POSITION_ZS = 20;
    private static final int POSITION_RS = 16;
    private static final int POSITIONS = POSITION_ZS * POSITION_RS;
    private static final int HOME = POSITION_RS - 1;

    private static final int INSERTS = 3;
    private static final int MOST_SPOTS = 8;
    private static final int MOST_DZ = 2;
    private static final int MOST_DR = 4;
    private static final int MOST_CHOSEN = 3;
    private static final int MOST_MOVES = 2000;
    private static final int MOST_EDIT_STEPS = 40;

    private static final int RAPID = 0;
    private static final int FEED = 1;
    private static final int CHANGE = 2;

    private static final int UNSAFE_STEP = 1;
    private static final int RAPID_INTO_STOCK = 2;
    private static final int STEP_BEFORE_CHANGE = 3;
    private static final int CHANGE_TO_NOTHING = 4;

    private static final int DIRECTIONS = 4;
    private static final int[] STEP_Z = {1, -1, 0, 0};
    private static final int[] STEP_R = {0, 0, -1, 1};

    private final Blank blank = new Blank();
    private final Insert[] inserts = {new Insert(), new Insert(), new Insert()};
    private final Job job = new Job(inserts);
    private final Moves planned = new Moves();
    private final Moves trial = new Moves();
    private final Stock shown = new Stock();
    private final Stock scratch = new Stock();
    private final Ways ways = new Ways(blank);
    private final Planner planner = new Planner(blank, job, ways, scratch, planned);
    private final Run run = new Run(blank, job);
    private boolean hasPlan = false;
    private int leftByPlan = 0;

    public TurnedBar() {
        shown.fillFrom(blank);
    }

    public boolean bar(int radius, int length, int chuck) {
        if (radius < 1 || radius > CELL_RS || length < 1 || length > CELL_ZS || chuck < 0 || chuck > CELL_ZS) {
            return false;
        }
        blank.radius = radius;
        blank.length = length;
        blank.chuck = chuck;
        dropPlan();
        return true;
    }

    public boolean profile(int z, int r) {
        if (z < 0 || z >= CELL_ZS || r < 0 || r > CELL_RS) {
            return false;
        }
        blank.radiusToStay[z] = r;
        dropPlan();
        return true;
    }

    public boolean spot(int insert, int dz, int dr) {
        if (!isInsert(insert) || dz < -MOST_DZ || dz > MOST_DZ || dr < 0 || dr > MOST_DR) {
            return false;
        }
        if (!inserts[insert].addSpot(dz, dr)) {
            return false;
        }
        dropPlan();
        return true;
    }

    public int clear(int insert) {
        if (!isInsert(insert)) {
            return NONE;
        }
        int had = inserts[insert].spots;
        inserts[insert].spots = 0;
        dropPlan();
        return had;
    }

    public int choose(int insert) {
        if (!isInsert(insert) || inserts[insert].spots == 0 || job.chosen >= MOST_CHOSEN) {
            return NONE;
        }
        job.append(insert);
        dropPlan();
        return job.chosen;
    }

    public int restart() {
        int had = job.chosen;
        job.chosen = 0;
        dropPlan();
        return had;
    }

    public boolean at(int insert, int z, int r, int what) {
        if (!isInsert(insert) || !isPosition(z, r)) {
            return false;
        }
        Insert asked = inserts[insert];
        switch (what) {
            case 0:
                return asked.isSafe(blank, z, r);
            case 1:
                return asked.spots > 0 && isInReach(asked, z, r);
            case 2:
                return asked.coversWaste(blank, z, r);
            default:
                return false;
        }
    }

    public boolean reach(int insert, int z, int r) {
        if (!isInsert(insert) || !isCell(z, r)) {
            return false;
        }
        Insert asked = inserts[insert];
        ways.exploreFromHome(asked);
        for (int i = 0; i < asked.spots; i++) {
            int fromZ = z - asked.dz[i];
            int fromR = r - asked.dr[i];
            if (isPosition(fromZ, fromR) && ways.isFound(positionOf(fromZ, fromR))) {
                return true;
            }
        }
        return false;
    }

    public int plan() {
        dropPlan();
        if (!job.isReady() || !planner.make()) {
            return NONE;
        }
        // The planner has cut in the scratch stock, which fault() will use for its own.
        leftByPlan = scratch.countWaste(blank);
        trial.copyFrom(planned);
        hasPlan = true;
        return planned.size;
    }

    public int move(int i, int what) {
        if (!isMove(i)) {
            return NONE;
        }
        int asked = trial.row[i];
        switch (what) {
            case 0:
                return Moves.kindOf(asked);
            case 1:
                return Moves.directionOf(asked);
            case 2:
                return Moves.stepsOf(asked);
            default:
                return NONE;
        }
    }

    public boolean edit(int i, int kind, int direction, int steps) {
        if (!isMove(i)) {
            return false;
        }
        if (kind == CHANGE) {
            trial.row[i] = Moves.packed(CHANGE, 0, 0);
            return true;
        }
        if (kind != RAPID && kind != FEED) {
            return false;
        }
        if (direction < 0 || direction >= DIRECTIONS || steps < 1 || steps > MOST_EDIT_STEPS) {
            return false;
        }
        trial.row[i] = Moves.packed(kind, direction, steps);
        return true;
    }

    public int undo() {
        if (!hasPlan) {
            return 0;
        }
        int differed = trial.countDifferent(planned);
        trial.copyFrom(planned);
        return differed;
    }

    public int simulate(int n) {
        if (n < 0 || !hasPlan) {
            return NONE;
        }
        run.goThrough(trial, n, shown);
        return run.cells;
    }

    public boolean stock(int z, int r) {
        return shown.has(z, r);
    }

    public int fault() {
        if (!hasPlan) {
            return NONE;
        }
        // Not on the shown stock: stock() tells of simulate() alone.
        run.goThrough(trial, trial.size, scratch);
        return run.firstFault;
    }

    public int left() {
        return hasPlan ? leftByPlan : NONE;
    }

    public int steps(int kind) {
        if (!hasPlan || (kind != RAPID && kind != FEED)) {
            return 0;
        }
        return trial.countSteps(kind);
    }

    private void dropPlan() {
        hasPlan = false;
        shown.fillFrom(blank);
    }

    private boolean isMove(int i) {
        return hasPlan && i >= 0 && i < trial.size;
    }

    private boolean isInReach(Insert insert, int z, int r) {
        ways.exploreFromHome(insert);
        return ways.isFound(positionOf(z, r));
    }

    private static boolean isInsert(int insert) {
        return insert >= 0 && insert < INSERTS;
    }

    private static boolean isCell(int z, int r) {
        return z >= 0 && z < CELL_ZS && r >= 0 && r < CELL_RS;
    }

    private static boolean isPosition(int z, int r) {
        return z >= LEAST_Z && z < LEAST_Z + POSITION_ZS && r >= 0 && r < POSITION_RS;
    }

    // Numbered so that the lower number is the one with less z, then with less r: the plan's order of choice.
    private static int positionOf(int z, int r) {
        return (z - LEAST_Z) * POSITION_RS + r;
    }

    private static int zOf(int position) {
        return position / POSITION_RS + LEAST_Z;
    }

    private static int rOf(int position) {
        return position % POSITION_RS;
    }

    /** The bar as it was put in, the chuck, and the profile that is to stay. */
    private static final class Blank {
        int radius = 1;
        int length = 1;
        int chuck = CELL_ZS;
        final int[] radiusToStay = new int[CELL_ZS];

        boolean isOfBar(int z, int r) {
            return isCell(z, r) && z < length && r < radius;
        }

        boolean isWaste(int z, int r) {
            return isOfBar(z, r) && r >= radiusToStay[z];
        }

        // A holder is at its place and everywhere further out, so its innermost place decides.
        boolean isFreeFromOn(int z, int r) {
            if (z >= chuck) {
                return false;
            }
            return z < 0 || z >= CELL_ZS || r >= radiusToStay[z];
        }
    }

    /** The spots of one insert. */
    private static final class Insert {
        int spots = 0;
        final int[] dz = new int[MOST_SPOTS];
        final int[] dr = new int[MOST_SPOTS];

        boolean addSpot(int newDz, int newDr) {
            if (spots >= MOST_SPOTS || hasSpot(newDz, newDr)) {
                return false;
            }
            dz[spots] = newDz;
            dr[spots] = newDr;
            spots++;
            return true;
        }

        boolean hasSpot(int askedDz, int askedDr) {
            for (int i = 0; i < spots; i++) {
                if (dz[i] == askedDz && dr[i] == askedDr) {
                    return true;
                }
            }
            return false;
        }

        boolean isSafe(Blank blank, int z, int r) {
            for (int i = 0; i < spots; i++) {
                if (!blank.isFreeFromOn(z + dz[i], r + dr[i])) {
                    return false;
                }
            }
            return true;
        }

        boolean coversWaste(Blank blank, int z, int r) {
            for (int i = 0; i < spots; i++) {
                if (blank.isWaste(z + dz[i], r + dr[i])) {
                    return true;
                }
            }
            return false;
        }
    }

    /** The row of inserts that are used one behind the other. */
    private static final class Job {
        final Insert[] inserts;
        final int[] row = new int[MOST_CHOSEN];
        int chosen = 0;

        Job(Insert[] inserts) {
            this.inserts = inserts;
        }

        void append(int insert) {
            row[chosen] = insert;
            chosen++;
        }

        Insert insertAt(int place) {
            return inserts[row[place]];
        }

        // An insert may have been cleared after it was chosen.
        boolean isReady() {
            for (int i = 0; i < chosen; i++) {
                if (insertAt(i).spots == 0) {
                    return false;
                }
            }
            return chosen > 0;
        }
    }

    /** Which of the bar's cells have not been cut. */
    private static final class Stock {
        final boolean[] uncut = new boolean[CELLS];

        void fillFrom(Blank blank) {
            for (int cell = 0; cell < CELLS; cell++) {
                uncut[cell] = blank.isOfBar(cell / CELL_RS, cell % CELL_RS);
            }
        }

        boolean has(int z, int r) {
            return isCell(z, r) && uncut[z * CELL_RS + r];
        }

        boolean isCoveredBy(Insert insert, int z, int r) {
            for (int i = 0; i < insert.spots; i++) {
                if (has(z + insert.dz[i], r + insert.dr[i])) {
                    return true;
                }
            }
            return false;
        }

        int cutBy(Insert insert, int z, int r) {
            int count = 0;
            for (int i = 0; i < insert.spots; i++) {
                int cellZ = z + insert.dz[i];
                int cellR = r + insert.dr[i];
                if (has(cellZ, cellR)) {
                    uncut[cellZ * CELL_RS + cellR] = false;
                    count++;
                }
            }
            return count;
        }

        int countWaste(Blank blank) {
            int count = 0;
            for (int cell = 0; cell < CELLS; cell++) {
                if (uncut[cell] && blank.isWaste(cell / CELL_RS, cell % CELL_RS)) {
                    count++;
                }
            }
            return count;
        }
    }

    /** A row of moves, each packed into one number so that equal moves are equal numbers. */
    private static final class Moves {
        final int[] row = new int[MOST_MOVES];
        int size = 0;

        static int packed(int kind, int direction, int steps) {
            return kind | direction << 2 | steps << 4;
        }

        static int kindOf(int move) {
            return move & 3;
        }

        static int directionOf(int move) {
            return move >> 2 & 3;
        }

        static int stepsOf(int move) {
            return move >> 4;
        }

        boolean addChange() {
            return append(packed(CHANGE, 0, 0));
        }

        boolean addStep(int kind, int direction) {
            if (size > 0) {
                int last = row[size - 1];
                if (kindOf(last) == kind && directionOf(last) == direction) {
                    row[size - 1] = packed(kind, direction, stepsOf(last) + 1);
                    return true;
                }
            }
            return append(packed(kind, direction, 1));
        }

        void copyFrom(Moves other) {
            System.arraycopy(other.row, 0, row, 0, other.size);
            size = other.size;
        }

        int countDifferent(Moves other) {
            int count = 0;
            for (int i = 0; i < size && i < other.size; i++) {
                if (row[i] != other.row[i]) {
                    count++;
                }
            }
            return count;
        }

        int countSteps(int kind) {
            int count = 0;
            for (int i = 0; i < size; i++) {
                if (kindOf(row[i]) == kind) {
                    count += stepsOf(row[i]);
                }
            }
            return count;
        }

        private boolean append(int move) {
            if (size >= MOST_MOVES) {
                return false;
            }
            row[size] = move;
            size++;
            return true;
        }
    }

    /** The shortest ways from one position over safe ones. */
    private static final class Ways {
        private final Blank blank;
        private final int[] queue = new int[POSITIONS];
        private final int[] distance = new int[POSITIONS];
        private final int[] cameBy = new int[POSITIONS];
        private int found = 0;

        Ways(Blank blank) {
            this.blank = blank;
        }

        boolean isFound(int position) {
            return distance[position] != NONE;
        }

        void exploreFromHome(Insert insert) {
            begin(HOME);
            for (int i = 0; i < found && i < POSITIONS; i++) {
                spread(insert, queue[i]);
            }
        }

        // All that come behind the nearest distance, and all beyond a position with stock, can be left out.
        int findNearestStock(Insert insert, Stock stock, int from) {
            begin(from);
            int best = NONE;
            for (int i = 0; i < found && i < POSITIONS; i++) {
                int position = queue[i];
                if (best != NONE && distance[position] > distance[best]) {
                    return best;
                }
                if (stock.isCoveredBy(insert, zOf(position), rOf(position))) {
                    best = best == NONE ? position : Math.min(best, position);
                } else if (best == NONE) {
                    spread(insert, position);
                }
            }
            return best;
        }

        /** Puts the directions of the way to a found position into the row, and answers how many they are. */
        int tellWay(int to, int[] directions) {
            int steps = distance[to];
            int position = to;
            for (int i = steps - 1; i >= 0; i--) {
                int direction = cameBy[position];
                directions[i] = direction;
                position = positionOf(zOf(position) - STEP_Z[direction], rOf(position) - STEP_R[direction]);
            }
            return steps;
        }

        private void begin(int from) {
            Arrays.fill(distance, NONE);
            distance[from] = 0;
            queue[0] = from;
            found = 1;
        }

        // The queue stands in the order of the ways' directions, so who finds a position first has its least way.
        private void spread(Insert insert, int from) {
            for (int direction = 0; direction < DIRECTIONS; direction++) {
                int z = zOf(from) + STEP_Z[direction];
                int r = rOf(from) + STEP_R[direction];
                if (isPosition(z, r) && !isFound(positionOf(z, r)) && insert.isSafe(blank, z, r)) {
                    int position = positionOf(z, r);
                    distance[position] = distance[from] + 1;
                    cameBy[position] = direction;
                    queue[found] = position;
                    found++;
                }
            }
        }
    }

    /** Makes the plan of a job. */
    private static final class Planner {
        private final Blank blank;
        private final Job job;
        private final Ways ways;
        private final Stock stock;
        private final Moves moves;
        private final int[] directions = new int[POSITIONS];

        Planner(Blank blank, Job job, Ways ways, Stock stock, Moves moves) {
            this.blank = blank;
            this.job = job;
            this.ways = ways;
            this.stock = stock;
            this.moves = moves;
        }

        /** Answers false when there would be too many moves. */
        boolean make() {
            stock.fillFrom(blank);
            moves.size = 0;
            for (int place = 0; place < job.chosen; place++) {
                if (!moves.addChange() || !useInsert(job.insertAt(place))) {
                    return false;
                }
            }
            return true;
        }

        // Each round cuts a cell at least, so there are no more rounds than cells.
        private boolean useInsert(Insert insert) {
            int position = HOME;
            for (int round = 0; round < CELLS; round++) {
                int next = ways.findNearestStock(insert, stock, position);
                if (next == NONE) {
                    return true;
                }
                if (!addWay(next)) {
                    return false;
                }
                stock.cutBy(insert, zOf(next), rOf(next));
                position = next;
            }
            return true;
        }

        private boolean addWay(int to) {
            int steps = ways.tellWay(to, directions);
            for (int i = 0; i < steps; i++) {
                int kind = i == steps - 1 ? FEED : RAPID;
                if (!moves.addStep(kind, directions[i])) {
                    return false;
                }
            }
            return true;
        }
    }

    /** Goes through a row of moves up to its first fault. */
    private static final class Run {
        private final Blank blank;
        private final Job job;
        private int changes = 0;
        private int z = 0;
        private int r = 0;
        int cells = 0;
        int firstFault = NONE;

        Run(Blank blank, Job job) {
            this.blank = blank;
            this.job = job;
        }

        void goThrough(Moves moves, int n, Stock stock) {
            stock.fillFrom(blank);
            changes = 0;
            cells = 0;
            firstFault = NONE;
            int count = Math.min(n, moves.size);
            for (int i = 0; i < count && firstFault == NONE; i++) {
                int wrong = goMove(moves.row[i], stock);
                if (wrong != NONE) {
                    firstFault = 10 * i + wrong;
                }
            }
        }

        private int goMove(int move, Stock stock) {
            int kind = Moves.kindOf(move);
            if (kind == CHANGE) {
                return goChange();
            }
            if (changes == 0) {
                return STEP_BEFORE_CHANGE;
            }
            int count = Moves.stepsOf(move);
            for (int i = 0; i < count; i++) {
                int wrong = goStep(kind, Moves.directionOf(move), stock);
                if (wrong != NONE) {
                    return wrong;
                }
            }
            return NONE;
        }

        private int goChange() {
            if (changes >= job.chosen) {
                return CHANGE_TO_NOTHING;
            }
            changes++;
            z = zOf(HOME);
            r = rOf(HOME);
            return NONE;
        }

        private int goStep(int kind, int direction, Stock stock) {
            Insert insert = job.insertAt(changes - 1);
            int nextZ = z + STEP_Z[direction];
            int nextR = r + STEP_R[direction];
            if (!isPosition(nextZ, nextR) || !insert.isSafe(blank, nextZ, nextR)) {
                return UNSAFE_STEP;
            }
            if (kind == RAPID && stock.isCoveredBy(insert, nextZ, nextR)) {
                return RAPID_INTO_STOCK;
            }
            if (kind == FEED) {
                cells += stock.cutBy(insert, nextZ, nextR);
            }
            z = nextZ;
            r = nextR;
            return NONE;
        }
    }
}
