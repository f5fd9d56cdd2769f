import java.util.ArrayList;
import java.util.HashMap;
import java.util.HashSet;
import java.util.List;
import java.util.Map;
import java.util.Set;

/** The document once more, word for word and slow, for ModelTest to compare with. */
final class Model {
    record Place(int z, int r) {
        Place next(int direction) {
            return switch (direction) {
                case 0 -> new Place(z + 1, r);
                case 1 -> new Place(z - 1, r);
                case 2 -> new Place(z, r - 1);
                default -> new Place(z, r + 1);
            };
        }
    }

    record Move(int kind, int direction, int steps) {
    }

    private static final Place HOME = new Place(-4, 15);
    private static final int FARTHEST = 99;

    private int radius = 1;
    private int length = 1;
    private int chuck = 12;
    private final int[] profile = new int[12];
    private final List<Set<Place>> inserts = List.of(new HashSet<>(), new HashSet<>(), new HashSet<>());
    private final List<Integer> row = new ArrayList<>();
    private List<Move> plan = null;
    private List<Move> trial = null;
    private Set<Place> behindPlan = null;
    private Set<Place> simulated = null;
    private int cut = 0;
    private int firstFault = -1;

    private static boolean in(int value, int least, int most) {
        return value >= least && value <= most;
    }

    private static boolean isCell(Place p) {
        return in(p.z, 0, 11) && in(p.r, 0, 7);
    }

    private static boolean isPosition(Place p) {
        return in(p.z, -4, 15) && in(p.r, 0, 15);
    }

    private boolean isProfile(Place p) {
        return isCell(p) && p.r < profile[p.z];
    }

    private Set<Place> wholeBar() {
        Set<Place> cells = new HashSet<>();
        for (int z = 0; z < length; z++) {
            for (int r = 0; r < radius; r++) {
                cells.add(new Place(z, r));
            }
        }
        return cells;
    }

    private Set<Place> covered(int insert, Place at) {
        Set<Place> cells = new HashSet<>();
        for (Place spot : inserts.get(insert)) {
            Place cell = new Place(at.z + spot.z, at.r + spot.r);
            if (isCell(cell)) {
                cells.add(cell);
            }
        }
        return cells;
    }

    private boolean covers(int insert, Place at, Set<Place> some) {
        Set<Place> both = covered(insert, at);
        both.retainAll(some);
        return !both.isEmpty();
    }

    private boolean isSafe(int insert, Place at) {
        for (Place spot : inserts.get(insert)) {
            for (int r = at.r + spot.r; r < FARTHEST; r++) {
                Place holder = new Place(at.z + spot.z, r);
                if (isProfile(holder) || holder.z >= chuck) {
                    return false;
                }
            }
        }
        return true;
    }

    private Set<Place> inReach(int insert) {
        Set<Place> reached = new HashSet<>();
        if (inserts.get(insert).isEmpty()) {
            return reached;
        }
        reached.add(HOME);
        for (boolean more = true; more; ) {
            more = false;
            for (Place p : List.copyOf(reached)) {
                for (int direction = 0; direction < 4; direction++) {
                    Place next = p.next(direction);
                    if (isPosition(next) && isSafe(insert, next)) {
                        more |= reached.add(next);
                    }
                }
            }
        }
        return reached;
    }

    /** How many steps it takes to come to a place, where all but the last place of a way must be free. */
    private static Map<Place, Integer> distances(Place from, Set<Place> allowed, Set<Place> free) {
        Map<Place, Integer> steps = new HashMap<>();
        steps.put(from, 0);
        for (boolean more = true; more; ) {
            more = false;
            for (Place p : List.copyOf(steps.keySet())) {
                for (int direction = 0; direction < 4 && (free.contains(p) || p.equals(from)); direction++) {
                    Place next = p.next(direction);
                    int there = steps.get(p) + 1;
                    if (allowed.contains(next) && there < steps.getOrDefault(next, FARTHEST * FARTHEST)) {
                        steps.put(next, there);
                        more = true;
                    }
                }
            }
        }
        return steps;
    }

    private static Place nearest(Map<Place, Integer> steps, Set<Place> free) {
        Place best = null;
        for (Place p : steps.keySet()) {
            if (free.contains(p)) {
                continue;
            }
            if (best == null || steps.get(p) < steps.get(best)
                || steps.get(p).equals(steps.get(best)) && (p.z < best.z || p.z == best.z && p.r < best.r)) {
                best = p;
            }
        }
        return best;
    }

    /** The way to a place that takes the least direction which still comes there by as few steps as can be. */
    private static List<Integer> leastWay(Place from, Place to, Set<Place> free) {
        Set<Place> allowed = new HashSet<>(free);
        allowed.add(to);
        Map<Place, Integer> back = distances(to, allowed, free);
        List<Integer> way = new ArrayList<>();
        Place p = from;
        while (!p.equals(to)) {
            int direction = 0;
            while (!back.containsKey(p.next(direction)) || back.get(p.next(direction)) != back.get(p) - 1) {
                direction++;
            }
            way.add(direction);
            p = p.next(direction);
        }
        return way;
    }

    private static void addStep(List<Move> moves, int kind, int direction) {
        Move last = moves.get(moves.size() - 1);
        if (last.kind == kind && last.direction == direction) {
            moves.set(moves.size() - 1, new Move(kind, direction, last.steps + 1));
        } else {
            moves.add(new Move(kind, direction, 1));
        }
    }

    private void planInsert(int insert, Set<Place> stock, List<Move> moves) {
        moves.add(new Move(2, 0, 0));
        Set<Place> reached = inReach(insert);
        Place at = HOME;
        while (true) {
            Set<Place> free = new HashSet<>(reached);
            free.removeIf(p -> covers(insert, p, stock));
            if (free.size() == reached.size()) {
                return;
            }
            Place to = nearest(distances(at, reached, free), free);
            List<Integer> way = leastWay(at, to, free);
            for (int i = 0; i < way.size(); i++) {
                addStep(moves, i == way.size() - 1 ? 1 : 0, way.get(i));
            }
            stock.removeAll(covered(insert, to));
            at = to;
        }
    }

    /** Answers the stock behind the first n moves of the trial, and tells what was cut and the first fault. */
    private Set<Place> goThrough(int n) {
        Set<Place> stock = wholeBar();
        int place = -1;
        Place at = null;
        cut = 0;
        firstFault = -1;
        for (int i = 0; i < trial.size() && i < n; i++) {
            Move move = trial.get(i);
            int fault = 0;
            if (move.kind == 2) {
                place++;
                at = HOME;
                fault = place >= row.size() ? 4 : 0;
            }
            for (int step = 0; step < move.steps && fault == 0; step++) {
                Place next = place < 0 ? null : at.next(move.direction);
                if (place < 0) {
                    fault = 3;
                } else if (!isPosition(next) || !isSafe(row.get(place), next)) {
                    fault = 1;
                } else if (move.kind == 0 && covers(row.get(place), next, stock)) {
                    fault = 2;
                } else if (move.kind == 1) {
                    int before = stock.size();
                    stock.removeAll(covered(row.get(place), next));
                    cut += before - stock.size();
                }
                at = next;
            }
            if (fault != 0) {
                firstFault = 10 * i + fault;
                return stock;
            }
        }
        return stock;
    }

    private void drop() {
        plan = null;
        trial = null;
        behindPlan = null;
        simulated = null;
    }

    boolean bar(int newRadius, int newLength, int newChuck) {
        if (!in(newRadius, 1, 8) || !in(newLength, 1, 12) || !in(newChuck, 0, 12)) {
            return false;
        }
        radius = newRadius;
        length = newLength;
        chuck = newChuck;
        drop();
        return true;
    }

    boolean profile(int z, int r) {
        if (!in(z, 0, 11) || !in(r, 0, 8)) {
            return false;
        }
        profile[z] = r;
        drop();
        return true;
    }

    boolean spot(int insert, int dz, int dr) {
        if (!in(insert, 0, 2) || !in(dz, -2, 2) || !in(dr, 0, 4)) {
            return false;
        }
        if (inserts.get(insert).size() == 8 || !inserts.get(insert).add(new Place(dz, dr))) {
            return false;
        }
        drop();
        return true;
    }

    int clear(int insert) {
        if (!in(insert, 0, 2)) {
            return -1;
        }
        int had = inserts.get(insert).size();
        inserts.get(insert).clear();
        drop();
        return had;
    }

    int choose(int insert) {
        if (!in(insert, 0, 2) || inserts.get(insert).isEmpty() || row.size() == 3) {
            return -1;
        }
        row.add(insert);
        drop();
        return row.size();
    }

    int restart() {
        int had = row.size();
        row.clear();
        drop();
        return had;
    }

    boolean at(int insert, int z, int r, int what) {
        Place p = new Place(z, r);
        if (!in(insert, 0, 2) || !isPosition(p) || !in(what, 0, 2)) {
            return false;
        }
        if (what == 0) {
            return isSafe(insert, p);
        }
        if (what == 1) {
            return inReach(insert).contains(p);
        }
        Set<Place> waste = wholeBar();
        waste.removeIf(this::isProfile);
        return covers(insert, p, waste);
    }

    boolean reach(int insert, int z, int r) {
        if (!in(insert, 0, 2) || !isCell(new Place(z, r))) {
            return false;
        }
        for (Place p : inReach(insert)) {
            if (covered(insert, p).contains(new Place(z, r))) {
                return true;
            }
        }
        return false;
    }

    int plan() {
        drop();
        if (row.isEmpty()) {
            return -1;
        }
        for (int insert : row) {
            if (inserts.get(insert).isEmpty()) {
                return -1;
            }
        }
        List<Move> moves = new ArrayList<>();
        Set<Place> stock = wholeBar();
        for (int insert : row) {
            planInsert(insert, stock, moves);
        }
        if (moves.size() > 2000) {
            return -1;
        }
        plan = moves;
        trial = new ArrayList<>(moves);
        behindPlan = stock;
        return moves.size();
    }

    int move(int i, int what) {
        if (trial == null || !in(i, 0, trial.size() - 1) || !in(what, 0, 2)) {
            return -1;
        }
        Move move = trial.get(i);
        return what == 0 ? move.kind : what == 1 ? move.direction : move.steps;
    }

    boolean edit(int i, int kind, int direction, int steps) {
        if (trial == null || !in(i, 0, trial.size() - 1) || !in(kind, 0, 2)) {
            return false;
        }
        if (kind != 2 && (!in(direction, 0, 3) || !in(steps, 1, 40))) {
            return false;
        }
        trial.set(i, kind == 2 ? new Move(2, 0, 0) : new Move(kind, direction, steps));
        return true;
    }

    int undo() {
        int differed = 0;
        for (int i = 0; plan != null && i < plan.size(); i++) {
            differed += plan.get(i).equals(trial.get(i)) ? 0 : 1;
        }
        trial = plan == null ? null : new ArrayList<>(plan);
        return differed;
    }

    int simulate(int n) {
        if (n < 0 || plan == null) {
            return -1;
        }
        simulated = goThrough(n);
        return cut;
    }

    boolean stock(int z, int r) {
        return (simulated == null ? wholeBar() : simulated).contains(new Place(z, r));
    }

    int fault() {
        if (plan == null) {
            return -1;
        }
        goThrough(trial.size());
        return firstFault;
    }

    int left() {
        if (plan == null) {
            return -1;
        }
        Set<Place> waste = new HashSet<>(behindPlan);
        waste.removeIf(this::isProfile);
        return waste.size();
    }

    int steps(int kind) {
        int sum = 0;
        for (int i = 0; trial != null && i < trial.size(); i++) {
            sum += trial.get(i).kind == kind ? trial.get(i).steps : 0;
        }
        return sum;
    }
}
