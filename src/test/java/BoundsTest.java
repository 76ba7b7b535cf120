import java.util.function.ToLongFunction;

/**
 * The head of 'Terms', sentence by sentence: the bounds of STATES, SIGHTS, NAMES and TABLES, what
 * all is at first, the codes, their order, and that nothing changes where a call is refused.
 */
public final class BoundsTest {
    private static final int UNKNOWN = -1000001;
    private static final int OUTSIDE = -1000002;
    private static final int GONE = -1000003;
    private static final int LOST = -1000004;
    private static final int MUCH = -1000005;
    private static final int NONE = -1000009;
    private static final int REFUSED = -1000010;

    private static final int[] NO_STATE = {-1, 6, UNKNOWN, NONE, Integer.MIN_VALUE, Integer.MAX_VALUE};
    private static final int[] NO_SIGHT = {-1, 5, UNKNOWN, NONE, Integer.MIN_VALUE, Integer.MAX_VALUE};
    private static final int[] NO_NAME = {-1, 4, UNKNOWN, NONE, Integer.MIN_VALUE, Integer.MAX_VALUE};
    private static final int[] NO_ENTRY = {-1, 10, 256, UNKNOWN, NONE, Integer.MIN_VALUE, Integer.MAX_VALUE};

    private static final Due due = new Due();
    private static final Refusal refused = new Refusal(due);

    public static void main(String[] args) {
        statesAreZeroToFive();
        sightsAreZeroToFour();
        namesAreZeroToThree();
        tablesHoldZeroToNine();
        eachPlaceOfATableIsItsOwn();
        allIsOneAtFirst();
        codesAreTheseNumbers();
        goneComesFirst();
        unknownComesBeforeOutside();
        outsideComesBeforeLost();
        stepsCodesInTheirOrder();
        fiveHundredAndTwelveCalls();
        due.end();
    }

    /** Done at its bound: what it was is answered, and then what it became. */
    private static void exchanges(String sentence, int was, int becomes, ToLongFunction<ResampledRows> call) {
        ResampledRows x = Scene.MIDST.make();
        due.is(sentence + ", what it was", call.applyAsLong(x), was);
        due.is(sentence + ", what it became", call.applyAsLong(x), becomes);
    }

    private static void inAll(String sentence, long code, ToLongFunction<ResampledRows> call) {
        refused.in(Scene.values(), sentence, code, call);
    }

    private static void withRun(String sentence, long code, ToLongFunction<ResampledRows> call) {
        refused.in(Scene.WITH_RUN, sentence, code, call);
    }

    private static void statesAreZeroToFive() {
        for (int s = 0; s <= 5; s += 5) {
            int state = s;
            exchanges("STATES 0 to 5: start " + s, Scene.startOf(s), 9, x -> x.start(state, 9));
            exchanges("STATES 0 to 5: move from " + s, Scene.moveOf(s, 1), 9, x -> x.move(state, 1, 9));
            exchanges("STATES 0 to 5: move to " + s, Scene.moveOf(1, s), 9, x -> x.move(1, state, 9));
            exchanges("STATES 0 to 5: seen in " + s, Scene.seenOf(2, s), 9, x -> x.seen(2, state, 9));
            exchanges("STATES 0 to 5: named " + s, 2, 1, x -> x.named(state, 1));
            exchanges("STATES 0 to 5: write " + s, 1, 1, x -> x.write(0, 0, state));
        }
        for (int state : NO_STATE) {
            inAll("STATES 0 to 5: start " + state, UNKNOWN, x -> x.start(state, 9));
            inAll("STATES 0 to 5: move from " + state, UNKNOWN, x -> x.move(state, 1, 9));
            inAll("STATES 0 to 5: move to " + state, UNKNOWN, x -> x.move(1, state, 9));
            inAll("STATES 0 to 5: seen in " + state, UNKNOWN, x -> x.seen(2, state, 9));
            inAll("STATES 0 to 5: named " + state, UNKNOWN, x -> x.named(state, 1));
            withRun("STATES 0 to 5: write " + state, UNKNOWN, x -> x.write(0, 0, state));
        }
    }

    private static void sightsAreZeroToFour() {
        exchanges("SIGHTS 0 to 4: seen 0", Scene.seenOf(0, 3), 9, x -> x.seen(0, 3, 9));
        exchanges("SIGHTS 0 to 4: seen 4", Scene.seenOf(4, 3), 9, x -> x.seen(4, 3, 9));
        due.is("SIGHTS 0 to 4: step 0", Scene.MIDST.make().step(0, 2), 4);
        due.is("SIGHTS 0 to 4: step 4", Scene.MIDST.make().step(4, 2), 4);
        for (int sight : NO_SIGHT) {
            inAll("SIGHTS 0 to 4: seen " + sight, UNKNOWN, x -> x.seen(sight, 3, 9));
            withRun("SIGHTS 0 to 4: step " + sight, UNKNOWN, x -> x.step(sight, 2));
        }
    }

    private static void namesAreZeroToThree() {
        exchanges("NAMES 0 to 3: named 0", 2, 0, x -> x.named(4, 0));
        exchanges("NAMES 0 to 3: named 3", 2, 3, x -> x.named(4, 3));
        for (int n = 0; n <= 3; n++) {
            ResampledRows x = Scene.MIDST.make();
            for (int state = 0; state < 6; state++) {
                x.named(state, n);
            }
            due.is("NAMES 0 to 3: step " + n, x.step(0, n), 4);
        }
        for (int name : NO_NAME) {
            inAll("NAMES 0 to 3: named " + name, OUTSIDE, x -> x.named(4, name));
            withRun("NAMES 0 to 3: step " + name, OUTSIDE, x -> x.step(0, name));
        }
    }

    private static void tablesHoldZeroToNine() {
        for (int w = 0; w <= 9; w += 9) {
            int entry = w;
            exchanges("TABLES 0 to 9: start, " + w, Scene.startOf(3), w, x -> x.start(3, entry));
            exchanges("TABLES 0 to 9: move, " + w, Scene.moveOf(3, 2), w, x -> x.move(3, 2, entry));
            exchanges("TABLES 0 to 9: seen, " + w, Scene.seenOf(3, 2), w, x -> x.seen(3, 2, entry));
        }
        for (int entry : NO_ENTRY) {
            inAll("TABLES 0 to 9: start, " + entry, OUTSIDE, x -> x.start(3, entry));
            inAll("TABLES 0 to 9: move, " + entry, OUTSIDE, x -> x.move(3, 2, entry));
            inAll("TABLES 0 to 9: seen, " + entry, OUTSIDE, x -> x.seen(3, 2, entry));
        }
    }

    /** Whichever one is set, all others are as they were. */
    private static void eachPlaceOfATableIsItsOwn() {
        ResampledRows x = new ResampledRows();
        for (int s = 0; s < 6; s++) {
            due.is("START of each STATE", x.start(s, s + 2), 1);
            due.is("each STATE has a NAME", x.named(s, s % 4), 0);
            for (int t = 0; t < 6; t++) {
                due.is("MOVE from STATE to STATE", x.move(s, t, (3 * s + t) % 10), 1);
            }
            for (int sight = 0; sight < 5; sight++) {
                due.is("SEEN of each SIGHT in each STATE", x.seen(sight, s, (2 * s + 3 * sight) % 10), 1);
            }
        }
        for (int s = 0; s < 6; s++) {
            due.is("START of each STATE, set", x.start(s, 0), s + 2);
            due.is("each STATE has a NAME, set", x.named(s, 0), s % 4);
            for (int t = 0; t < 6; t++) {
                due.is("MOVE from STATE to STATE, set", x.move(s, t, 0), (3 * s + t) % 10);
            }
            for (int sight = 0; sight < 5; sight++) {
                due.is("SEEN of each SIGHT in each STATE, set", x.seen(sight, s, 0), (2 * s + 3 * sight) % 10);
            }
        }
    }

    private static void allIsOneAtFirst() {
        String atFirst = "10 11111111111";
        String six = atFirst + atFirst + atFirst + atFirst + atFirst + atFirst;
        due.isText("all 1 at first; a NAME, 0 at first", Look.tables(new ResampledRows()), six);
        due.isText("no RUN", Look.rows(new ResampledRows()), "0 0 0 0 -1000009 -1000003 -1000003 -1000003 0.0");
    }

    private static void codesAreTheseNumbers() {
        due.is("UNKNOWN -1000001", ResampledRows.UNKNOWN, UNKNOWN);
        due.is("OUTSIDE -1000002", ResampledRows.OUTSIDE, OUTSIDE);
        due.is("GONE -1000003", ResampledRows.GONE, GONE);
        due.is("LOST -1000004", ResampledRows.LOST, LOST);
        due.is("MUCH -1000005", ResampledRows.MUCH, MUCH);
        due.is("NONE is -1000009", ResampledRows.NONE, NONE);
    }

    private static void goneComesFirst() {
        gone("keep", x -> x.keep(0), x -> x.keep(-1), x -> x.keep(16), x -> x.keep(NONE));
        gone("step", x -> x.step(0, 0), x -> x.step(5, 0), x -> x.step(0, 4), x -> x.step(-1, -1));
        gone("again", x -> x.again(0), x -> x.again(4), x -> x.again(-1));
        gone("rule", x -> x.rule(0, 50), x -> x.rule(4, 50), x -> x.rule(0, 0), x -> x.rule(-1, 101));
        gone("from", x -> x.from(0), x -> x.from(-1), x -> x.from(16));
        gone("row", x -> x.row(0, 0), x -> x.row(0, 1), x -> x.row(-1, 0), x -> x.row(0, 2), x -> x.row(16, -1));
        gone("weight", x -> x.weight(0), x -> x.weight(-1), x -> x.weight(16));
        gone("history", x -> Refusal.history(x, 0, 0), x -> Refusal.history(x, -1, 0),
                x -> Refusal.history(x, 0, -1), x -> Refusal.history(x, 16, 31));
        gone("write", x -> x.write(0, 0, 0), x -> x.write(-1, 0, 0), x -> x.write(0, -1, 0),
                x -> x.write(0, 0, 6), x -> x.write(16, 31, -1));
        gone("told", x -> x.told(0), x -> x.told(1), x -> x.told(2), x -> x.told(3), x -> x.told(-1));
    }

    @SafeVarargs
    private static void gone(String name, ToLongFunction<ResampledRows>... calls) {
        for (int k = 0; k < calls.length; k++) {
            refused.in(Scene.WITHOUT_RUN, "GONE (there is no RUN): " + name + " " + k, GONE, calls[k]);
        }
    }

    private static void unknownComesBeforeOutside() {
        inAll("UNKNOWN; OUTSIDE: start", UNKNOWN, x -> x.start(6, 10));
        inAll("UNKNOWN; OUTSIDE: move from", UNKNOWN, x -> x.move(-1, 0, -1));
        inAll("UNKNOWN; OUTSIDE: move to", UNKNOWN, x -> x.move(0, 6, 10));
        inAll("UNKNOWN; OUTSIDE: seen, the SIGHT", UNKNOWN, x -> x.seen(5, 0, 10));
        inAll("UNKNOWN; OUTSIDE: seen, the STATE", UNKNOWN, x -> x.seen(0, 6, -1));
        inAll("UNKNOWN; OUTSIDE: named", UNKNOWN, x -> x.named(6, 4));
        withRun("UNKNOWN; OUTSIDE: step", UNKNOWN, x -> x.step(5, 4));
        withRun("UNKNOWN; OUTSIDE: row", UNKNOWN, x -> x.row(4, 2));
        withRun("UNKNOWN; OUTSIDE: write, the ROW", UNKNOWN, x -> x.write(4, 31, 0));
        withRun("UNKNOWN; OUTSIDE: write, the STATE", UNKNOWN, x -> x.write(0, -1, 6));
        withRun("UNKNOWN. ArrayIndexOutOfBoundsException: history", UNKNOWN, x -> Refusal.history(x, 4, 31));
        withRun("UNKNOWN. ArrayIndexOutOfBoundsException: history", UNKNOWN, x -> Refusal.history(x, -1, -1));
    }

    private static void outsideComesBeforeLost() {
        refused.of(() -> startless(Scene.MIDST), "OUTSIDE; LOST: begin 0", OUTSIDE, x -> x.begin(0, 5L));
        refused.of(() -> startless(Scene.MIDST), "OUTSIDE; LOST: begin 17", OUTSIDE, x -> x.begin(17, 5L));
        refused.of(() -> startless(Scene.MIDST), "-1000010; LOST: begin -1", REFUSED, x -> x.begin(-1, 5L));
        refused.of(Scene.WEIGHTLESS::make, "OUTSIDE; LOST: again", OUTSIDE, x -> x.again(4));
        refused.of(Scene.WEIGHTLESS::make, "OUTSIDE; LOST: rule, the WAY", OUTSIDE, x -> x.rule(4, 50));
        refused.of(Scene.WEIGHTLESS::make, "OUTSIDE; LOST: rule, part 0", OUTSIDE, x -> x.rule(0, 0));
        refused.of(Scene.WEIGHTLESS::make, "OUTSIDE; LOST: rule, part 101", OUTSIDE, x -> x.rule(0, 101));
    }

    private static ResampledRows startless(Scene scene) {
        ResampledRows x = scene.make();
        for (int state = 0; state < 6; state++) {
            x.start(state, 0);
        }
        return x;
    }

    /** GONE; UNKNOWN; OUTSIDE: the NAME; GONE (the NAME; 30 were); LOST; MUCH. */
    private static void stepsCodesInTheirOrder() {
        refused.of(BoundsTest::allWrong, "step: UNKNOWN before all else", UNKNOWN, x -> x.step(5, 4));
        refused.of(BoundsTest::allWrong, "step: OUTSIDE before GONE", OUTSIDE, x -> x.step(0, 4));
        refused.of(BoundsTest::allWrong, "step: GONE (the NAME) before LOST", GONE, x -> x.step(0, 1));
        refused.of(BoundsTest::lostAtLastStep, "step: GONE (30 were) before LOST", GONE, x -> x.step(0, 2));
        // ROW 0 would be MUCH, ROW 1 is LOST behind it: one DRAW was made.
        refused.alike("step: LOST before MUCH, the DRAW was made", () -> {
            ResampledRows x = muchAndLost(5, 0);
            due.is("step: LOST before MUCH", x.step(0, 0), LOST);
            return x;
        }, () -> muchAndLost(0));
        ResampledRows x = muchAndLost(5, 0);
        x.move(0, 0, 1);
        due.is("step: MUCH, if none is LOST", x.step(0, 0), MUCH);
    }

    private static ResampledRows allWrong() {
        ResampledRows x = muchAndLost(5, 0);
        x.named(0, 1);
        return x;
    }

    private static ResampledRows lostAtLastStep() {
        ResampledRows x = Scene.LAST_STEP.make();
        for (int from = 0; from < 6; from++) {
            for (int to = 0; to < 6; to++) {
                x.move(from, to, 0);
            }
        }
        return x;
    }

    /** ROW 0 in STATE 5, 531441 heavy; ROW 1 in STATE 0, from which there is no MOVE. */
    private static ResampledRows muchAndLost(int... left) {
        ResampledRows x = new ResampledRows();
        x.seen(0, 5, 9);
        x.force(5);
        x.force(0);
        x.begin(2, 3L);
        for (int t = 0; t < 6; t++) {
            x.force(5);
            x.force(0);
            x.step(0, 0);
        }
        for (int to = 0; to < 6; to++) {
            x.move(0, to, 0);
        }
        for (int draw : left) {
            x.force(draw);
        }
        return x;
    }

    /** An object is used for at most 512 calls: the last of them is answered like any other. */
    private static void fiveHundredAndTwelveCalls() {
        ResampledRows x = new ResampledRows();
        x.begin(16, 1L);
        for (int t = 1; t <= 30; t++) {
            due.is("at most 512 calls: STEP", x.step(0, 0), t);
        }
        for (int call = 32; call <= 511; call++) {
            int unlike = x.again(call % 4);
            if (unlike < 1 || unlike > 16) {
                due.say("at most 512 calls: call " + call + " answered " + unlike);
            }
        }
        due.is("at most 512 calls: the last", x.count(2), 480);
    }
}
