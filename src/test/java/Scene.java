/** Objects in the midst of something, each made by the same calls every time. */
enum Scene {
    /** No RUN so far. */
    NO_RUN,
    /** Four ROWS, unlike WEIGHTS, ROW 2 KEPT, drawn anew once, three STEPS. */
    MIDST,
    /** The same, but another STEP on, which left no WEIGHT. */
    WEIGHTLESS,
    /** Thirty STEPS. */
    LAST_STEP,
    /** There was a RUN; then START was 0 of all, and a new RUN was LOST. */
    LOST_RUN,
    /** There was a RUN, and all was cleared. */
    CLEARED;

    static final Scene[] WITH_RUN = {MIDST, WEIGHTLESS, LAST_STEP};
    static final Scene[] WITHOUT_RUN = {NO_RUN, LOST_RUN, CLEARED};

    ResampledRows make() {
        ResampledRows x = new ResampledRows();
        setTables(x);
        if (this != NO_RUN) {
            goToMidst(x);
        }
        switch (this) {
            case WEIGHTLESS: x.step(4, 2); break;
            case LAST_STEP: goToLastStep(x); break;
            case LOST_RUN: loseStart(x); break;
            case CLEARED: x.clear(); break;
            default: break;
        }
        x.force(3);
        x.force(5);
        x.force(Integer.MAX_VALUE);
        return x;
    }

    static int startOf(int state) {
        return state + 1;
    }

    static int moveOf(int from, int to) {
        return 1 + (from + 2 * to) % 9;
    }

    /** SIGHT 4 takes all WEIGHT. */
    static int seenOf(int sight, int state) {
        return sight == 4 ? 0 : 1 + (sight + state) % 5;
    }

    private static void setTables(ResampledRows x) {
        for (int state = 0; state < 6; state++) {
            x.start(state, startOf(state));
            x.named(state, 2);
            for (int to = 0; to < 6; to++) {
                x.move(state, to, moveOf(state, to));
            }
            for (int sight = 0; sight < 5; sight++) {
                x.seen(sight, state, seenOf(sight, state));
            }
        }
    }

    private static void goToMidst(ResampledRows x) {
        x.begin(4, 99L);
        x.step(1, 2);
        x.step(3, 2);
        x.again(1);
        x.keep(2);
        x.step(2, 2);
        x.write(1, 0, 5);
    }

    private static void goToLastStep(ResampledRows x) {
        x.again(3);
        for (int state = 0; state < 6; state++) {
            x.seen(0, state, 1);
        }
        for (int t = 0; t < 26; t++) {
            x.step(0, 2);
        }
        x.step(1, 2);
    }

    private static void loseStart(ResampledRows x) {
        for (int state = 0; state < 6; state++) {
            x.start(state, 0);
        }
        x.begin(4, 7L);
    }
}
