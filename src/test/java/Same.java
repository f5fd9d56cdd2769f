import java.util.ArrayList;
import java.util.List;

/**
 * Sees that a call changes nothing: all that can be asked of an object, and all that can be done with it next, is
 * answered as by one that is made alike and has not got the call. Each part has an object of its own, as one object is
 * used for 512 calls at most.
 */
final class Same {
    /** Makes an object, always by the same calls. */
    interface Maker {
        Counted make();
    }

    /** A call, or some, on an object. */
    interface Calls {
        void on(Counted x);
    }

    private static final int MANY_MOVES = 40;

    private final Due due;
    private final String state;
    private final Maker maker;
    private final List<Calls> parts = new ArrayList<>();
    private final List<List<String>> wanted = new ArrayList<>();

    Same(Due due, String state, Maker maker) {
        this.due = due;
        this.state = state;
        this.maker = maker;
        askOfTheTrial();
        askOfPositions();
        goOn();
        for (Calls part : parts) {
            wanted.add(answers(maker.make(), part));
        }
    }

    /** The call is made on a new object each time; what it answers is for the test to look at. */
    void behind(String name, Calls call) {
        for (int i = 0; i < parts.size(); i++) {
            Counted x = maker.make();
            call.on(x);
            compare(name, wanted.get(i), answers(x, parts.get(i)));
        }
    }

    private void compare(String name, List<String> want, List<String> got) {
        int same = 0;
        while (same < want.size() && same < got.size() && want.get(same).equals(got.get(same))) {
            same++;
        }
        boolean isSame = same == want.size() && same == got.size();
        String first = isSame || same >= got.size() ? "all" : got.get(same);
        due.is(state + ", behind " + name + ": the same as before (first other one: " + first + ")", isSame, true);
    }

    private static List<String> answers(Counted x, Calls part) {
        int first = x.calls();
        part.on(x);
        return List.copyOf(x.answersFrom(first));
    }

    private void askOfTheTrial() {
        parts.add(Same::moves);
        parts.add(Same::stock);
        parts.add(x -> {
            x.fault();
            x.left();
            for (int kind = 0; kind <= 2; kind++) {
                x.steps(kind);
            }
        });
    }

    private void askOfPositions() {
        for (int insert = 0; insert < 3; insert++) {
            int asked = insert;
            for (int what = 0; what <= 2; what++) {
                int whether = what;
                parts.add(x -> positions(x, asked, whether));
            }
            parts.add(x -> reach(x, asked));
        }
    }

    /** What lies hidden, such as the row of the job or the plan behind the trial, shows in what comes next. */
    private void goOn() {
        parts.add(x -> {
            x.undo();
            moves(x);
        });
        parts.add(x -> {
            for (int n = 0; n < MANY_MOVES; n++) {
                x.simulate(n);
            }
            stock(x);
        });
        parts.add(x -> {
            x.plan();
            moves(x);
            x.left();
        });
        parts.add(Counted::restart);
        for (int insert = 0; insert < 3; insert++) {
            int asked = insert;
            parts.add(x -> x.clear(asked));
            parts.add(x -> spots(x, asked));
            parts.add(x -> {
                x.choose(asked);
                x.plan();
                moves(x);
            });
        }
    }

    private static void moves(Counted x) {
        for (int i = -1; i < MANY_MOVES; i++) {
            for (int what = 0; what <= 2; what++) {
                x.move(i, what);
            }
        }
    }

    private static void stock(Counted x) {
        for (int z = -1; z <= 12; z++) {
            for (int r = -1; r <= 8; r++) {
                x.stock(z, r);
            }
        }
    }

    private static void positions(Counted x, int insert, int what) {
        for (int z = -4; z <= 15; z++) {
            for (int r = 0; r <= 15; r++) {
                x.at(insert, z, r, what);
            }
        }
    }

    private static void reach(Counted x, int insert) {
        for (int z = 0; z <= 11; z++) {
            for (int r = 0; r <= 7; r++) {
                x.reach(insert, z, r);
            }
        }
    }

    // Which ones are refused, and when it is full.
    private static void spots(Counted x, int insert) {
        for (int dz = -2; dz <= 2; dz++) {
            for (int dr = 0; dr <= 4; dr++) {
                x.spot(insert, dz, dr);
            }
        }
        x.clear(insert);
    }
}
