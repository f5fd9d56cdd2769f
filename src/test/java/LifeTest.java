/** "An object is used for at most 512 calls after it has been made": up to the last of them each is answered as due. */
public final class LifeTest {
    private static final Due DUE = new Due();
    private static final int CALLS = 512;

    public static void main(String[] args) {
        eachCallAsTheLastOne();
        plansUpToTheLastCall();
        editsUpToTheLastCall();
        beyondTheLastCall();
        objectsKnowNothingOfOneAnother();
        DUE.end();
    }

    /** A bar of two cells whose plan is made, with so many calls that one more is left. */
    private static Counted nearlyUsedUp() {
        Counted x = new Counted();
        x.bar(2, 1, 12);
        x.spot(0, 0, 0);
        x.choose(0);
        x.plan();
        x.edit(2, 0, 2, 14);
        while (x.calls() < CALLS - 1) {
            x.stock(0, 0);
        }
        return x;
    }

    private static void eachCallAsTheLastOne() {
        DUE.is("bar", nearlyUsedUp().bar(8, 12, 12), true);
        DUE.is("profile", nearlyUsedUp().profile(0, 9), false);
        DUE.is("spot", nearlyUsedUp().spot(0, 1, 1), true);
        DUE.is("clear", nearlyUsedUp().clear(0), 1);
        DUE.is("choose", nearlyUsedUp().choose(0), 2);
        DUE.is("restart", nearlyUsedUp().restart(), 1);
        DUE.is("at", nearlyUsedUp().at(0, 0, 0, 1), true);
        DUE.is("reach", nearlyUsedUp().reach(0, 0, 0), true);
        DUE.is("plan", nearlyUsedUp().plan(), 4);
        DUE.is("move", nearlyUsedUp().move(2, 2), 14);
        DUE.is("edit", nearlyUsedUp().edit(3, 1, 1, 1), true);
        DUE.is("undo", nearlyUsedUp().undo(), 1);
        DUE.is("simulate", nearlyUsedUp().simulate(4), 0);
        DUE.is("stock", nearlyUsedUp().stock(0, 1), true);
        DUE.is("fault", nearlyUsedUp().fault(), 22);
        DUE.is("left", nearlyUsedUp().left(), 0);
        DUE.is("steps", nearlyUsedUp().steps(0), 18);
    }

    private static void plansUpToTheLastCall() {
        Counted x = new Counted();
        x.bar(8, 12, 12);
        x.spot(0, 0, 0);
        x.choose(0);
        while (x.calls() < CALLS - 1) {
            DUE.is("plan()", x.plan(), 26);
        }
        DUE.is("the last call: simulate(26)", x.simulate(26), 96);
    }

    private static void editsUpToTheLastCall() {
        Counted x = new Counted();
        x.bar(2, 1, 12);
        x.spot(0, 0, 0);
        x.choose(0);
        x.plan();
        while (x.calls() < CALLS - 2) {
            DUE.is("edit()", x.edit(x.calls() % 4, 1, 1, 1 + x.calls() % 40), true);
        }
        DUE.is("the last but one: undo()", x.undo(), 4);
        DUE.is("the last call: fault()", x.fault(), TurnedBar.NONE);
    }

    /** What these answer is free, but they come back: LANGUAGE.md lets no call throw or fail to end. */
    private static void beyondTheLastCall() {
        TurnedBar x = new TurnedBar();
        int answered = 0;
        for (int i = 0; i < 4 * CALLS; i++) {
            x.bar(1 + i % 8, 1 + i % 12, i % 13);
            x.profile(i % 12, i % 9);
            x.spot(i % 3, i % 5 - 2, i % 5);
            x.choose(i % 3);
            x.plan();
            x.edit(i % 7, i % 3, i % 4, 1 + i % 40);
            x.simulate(i);
            x.fault();
            x.undo();
            x.at(i % 3, i % 20 - 4, i % 16, 1);
            x.reach(i % 3, i % 12, i % 8);
            if (i % 50 == 0) {
                x.clear(i % 3);
                x.restart();
            }
            answered++;
        }
        DUE.is("all came back", answered, 4 * CALLS);
    }

    private static void objectsKnowNothingOfOneAnother() {
        Counted x = nearlyUsedUp();
        Counted y = new Counted();
        DUE.is("the new one has no plan", y.left(), TurnedBar.NONE);
        DUE.is("nor spots", y.clear(0), 0);
        y.bar(8, 12, 0);
        y.profile(0, 8);
        DUE.is("the old one's plan stays", x.left(), 0);
    }
}
