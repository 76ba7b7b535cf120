import java.util.Random;

/**
 * Runs of drawn calls, and a look round at their end: what the class answers, the Model answers.
 * No object is asked more than 512 times: what it answers then is free.
 */
public final class ModelTest {
    private static final int RUNS = 20000;
    private static final int CALLS = 512;
    private static final int CALLS_BEFORE_LOOK = 360;
    private static final int[] WILD = {
        Integer.MIN_VALUE, Integer.MAX_VALUE, -1000009, -1000003, -1, 64, 100, 101, 1 << 16, 1 << 30
    };

    private static final Due due = new Due();

    private final Random random;
    private final ResampledRows rows = new ResampledRows();
    private final Model model = new Model();
    private final StringBuilder calls = new StringBuilder();
    // How often out of 100 an argument is meant to be wrong, and a weight 0.
    private final int wrongness;
    private final int zeros;
    private final boolean longRuns;
    private int made = 0;

    private ModelTest(long seed) {
        random = new Random(seed);
        int[] wrong = {0, 2, 20};
        int[] zero = {0, 10, 40};
        wrongness = wrong[random.nextInt(3)];
        zeros = zero[random.nextInt(3)];
        longRuns = random.nextBoolean();
    }

    public static void main(String[] args) {
        for (int seed = 1; seed <= RUNS && due.wrong() == 0; seed++) {
            new ModelTest(seed).run(seed);
        }
        due.end();
    }

    private void run(int seed) {
        int last = random.nextInt(4) == 0 ? random.nextInt(CALLS_BEFORE_LOOK) : CALLS_BEFORE_LOOK;
        while (made < last && due.wrong() == 0) {
            oneCall(drawnCall());
        }
        lookRound();
        if (made > CALLS) {
            due.say("the test has made " + made + " calls");
        }
        if (due.wrong() != 0) {
            System.out.println("run " + seed + ": " + calls);
        }
    }

    private int number(int count) {
        if (random.nextInt(100) < wrongness) {
            int pick = random.nextInt(WILD.length + 3);
            return pick < WILD.length ? WILD[pick] : pick == WILD.length ? count : count + 1 - random.nextInt(3);
        }
        return random.nextInt(count);
    }

    private int weightNumber() {
        return random.nextInt(100) < zeros ? 0 : number(10);
    }

    private int rowNumber() {
        return number(Math.max(1, (int) model.count(0)));
    }

    private int placeNumber() {
        return number((int) model.count(1) + 1);
    }

    /** STEPS and drawings anew come often; what ends or clears a RUN seldom where it is to be long. */
    private int drawnCall() {
        if (model.count(0) == 0 && random.nextInt(3) == 0) {
            return 5;
        }
        int pick = random.nextInt(200);
        if (pick < 60) {
            return 7;
        }
        if (pick < 80) {
            return 8 + random.nextInt(2);
        }
        if (pick < 82) {
            return longRuns && pick == 81 ? 7 : 18;
        }
        if (pick < 90) {
            return longRuns && pick > 82 ? 8 : 5;
        }
        if (pick < 92) {
            return 19;
        }
        return new int[] {0, 1, 2, 3, 4, 6, 10, 11, 12, 13, 14, 15, 16, 17}[random.nextInt(14)];
    }

    private void oneCall(int call) {
        int a;
        int b;
        int c;
        switch (call) {
            case 0: a = number(6); b = weightNumber();
                is("start", rows.start(a, b), model.start(a, b), a, b); break;
            case 1: a = number(6); b = number(6); c = weightNumber();
                is("move", rows.move(a, b, c), model.move(a, b, c), a, b, c); break;
            case 2: a = number(5); b = number(6); c = weightNumber();
                is("seen", rows.seen(a, b, c), model.seen(a, b, c), a, b, c); break;
            case 3: a = number(6); b = random.nextInt(8) == 0 ? number(4) : 0;
                is("named", rows.named(a, b), model.named(a, b), a, b); break;
            case 4: forceSome(); break;
            case 5: a = random.nextInt(100) < wrongness ? number(17) : 1 + random.nextInt(16);
                long seed = random.nextBoolean() ? random.nextLong() : random.nextInt(9);
                is("begin", rows.begin(a, seed), model.begin(a, seed), a, seed); break;
            case 6: a = random.nextInt(4) == 0 ? -1000009 : rowNumber();
                is("keep", rows.keep(a), model.keep(a), a); break;
            case 7: a = number(5); b = random.nextInt(20) == 0 ? number(4) : 0;
                is("step", rows.step(a, b), model.step(a, b), a, b); break;
            case 8: a = number(4);
                is("again", rows.again(a), model.again(a), a); break;
            case 9: a = number(4); b = random.nextInt(100) < wrongness ? number(101) : 1 + random.nextInt(100);
                is("rule", rows.rule(a, b), model.rule(a, b), a, b); break;
            default: otherCall(call); break;
        }
    }

    private void otherCall(int call) {
        int a;
        int b;
        int c;
        switch (call) {
            case 10: a = rowNumber();
                is("from", rows.from(a), model.from(a), a); break;
            case 11: a = rowNumber(); b = number(2);
                is("row", rows.row(a, b), model.row(a, b), a, b); break;
            case 12: a = rowNumber();
                is("weight", rows.weight(a), model.weight(a), a); break;
            case 13: compareHistory(rowNumber(), placeNumber()); break;
            case 14: a = rowNumber(); b = placeNumber(); c = number(6);
                is("write", rows.write(a, b, c), model.write(a, b, c), a, b, c); break;
            case 15: a = number(3);
                is("told", rows.told(a), model.told(a), a); break;
            case 16: compareEvidence(); break;
            case 17: a = number(5);
                is("count", rows.count(a), model.count(a), a); break;
            case 19: setWholeTable(random.nextInt(3), random.nextInt(5)); break;
            default: is("clear", rows.clear(), model.clear()); break;
        }
    }

    /** So that ROWS are LOST, and WEIGHTS grow MUCH: one call at a time that comes too seldom. */
    private void setWholeTable(int table, int which) {
        int w = table == 2 ? 9 - random.nextInt(3) : 0;
        int open = random.nextInt(8);
        for (int state = 0; state < 6; state++) {
            int v = state == open ? 1 + random.nextInt(9) : w;
            switch (table) {
                case 0: is("start", rows.start(state, v), model.start(state, v), state, v); break;
                case 1: is("move", rows.move(which, state, v), model.move(which, state, v), which, state, v); break;
                default: is("seen", rows.seen(which, state, v), model.seen(which, state, v), which, state, v); break;
            }
        }
    }

    private void forceSome() {
        int times = random.nextInt(8) == 0 ? 70 : random.nextInt(4);
        for (int k = 0; k < times; k++) {
            int draw = random.nextBoolean() ? random.nextInt(40) : random.nextInt() & (wrongness > 0 ? -1 : Integer.MAX_VALUE);
            is("force", rows.force(draw), model.force(draw), draw);
        }
    }

    private void is(String name, long got, long want, long... arguments) {
        StringBuilder call = new StringBuilder(name).append('(');
        for (int k = 0; k < arguments.length; k++) {
            call.append(k == 0 ? "" : ", ").append(arguments[k]);
        }
        call.append(')');
        calls.append(call).append(" -> ").append(want).append("; ");
        made++;
        due.is(call.toString(), got, want);
    }

    private void compareEvidence() {
        made++;
        due.is("evidence()", rows.evidence(), model.evidence());
    }

    private void compareHistory(int row, int place) {
        made++;
        due.isText("history(" + row + ", " + place + ")", historyOfRows(row, place), historyOfModel(row, place));
    }

    private String historyOfRows(int row, int place) {
        try {
            return "" + rows.history(row, place);
        } catch (RuntimeException e) {
            return e.getClass().getName();
        }
    }

    private String historyOfModel(int row, int place) {
        try {
            return "" + model.history(row, place);
        } catch (RuntimeException e) {
            return e.getClass().getName();
        }
    }

    /** All that is told, and as many ROWS, from a drawn one on, as there are calls left for. */
    private void lookRound() {
        for (int what = -1; what <= 5; what++) {
            is("count", rows.count(what), model.count(what), what);
        }
        for (int what = -1; what <= 3; what++) {
            is("told", rows.told(what), model.told(what), what);
        }
        compareEvidence();
        int around = (int) model.count(0) + 2;
        int first = random.nextInt(around);
        int places = (int) model.count(1) + 3;
        for (int k = 0; k < around && made + 4 + places <= CALLS; k++) {
            lookAtRow((first + k) % around - 1, places);
        }
    }

    private void lookAtRow(int row, int places) {
        is("from", rows.from(row), model.from(row), row);
        is("weight", rows.weight(row), model.weight(row), row);
        is("row", rows.row(row, 0), model.row(row, 0), row, 0);
        is("row", rows.row(row, 1), model.row(row, 1), row, 1);
        for (int place = -1; place < places - 1; place++) {
            compareHistory(row, place);
        }
    }
}
