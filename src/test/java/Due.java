/** Counts the answers that are not the ones that are due, and ends a test with exit code 1 if there was one. */
final class Due {
    private int wrong = 0;
    private int asked = 0;

    void is(String call, long got, long want) {
        asked++;
        if (got != want) {
            wrong++;
            if (wrong <= 50) {
                System.out.println(call + " answered " + got + ", due is " + want);
            }
        }
    }

    void is(String call, boolean got, boolean want) {
        is(call, got ? 1 : 0, want ? 1 : 0);
    }

    /** Looks at one move of the trial: all that can be asked of it. */
    void move(TurnedBar x, int i, int kind, int direction, int steps) {
        is("move(" + i + ", 0)", x.move(i, 0), kind);
        is("move(" + i + ", 1)", x.move(i, 1), direction);
        is("move(" + i + ", 2)", x.move(i, 2), steps);
    }

    boolean isWrong() {
        return wrong != 0;
    }

    void end() {
        System.out.println(wrong == 0 ? asked + " answers are as due" : wrong + " answers are not as due");
        if (wrong != 0) {
            System.exit(1);
        }
    }
}
