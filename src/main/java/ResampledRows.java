import java.util.Arrays;

/**
 * Many runs of a chain in step, with weights, drawn anew by exact whole numbers.
 *
 * <p>Every array is made in a constructor and used again, so that no call makes an object.
 */
public final class ResampledRows {
    public static final int UNKNOWN = -1000001, OUTSIDE = -1000002, GONE = -1000003, LOST = -1000004, MUCH = -1000005, NONE = -1000009;

    private static final int REFUSED = -1000010;

    private static final int STATES = 6;
    private static final int SIGHTS = 5;
    private static final int NAMES = 4;
    private static final int WAYS = 4;
    private static final int GREATEST_ENTRY = 9;
    private static final int GREATEST_WEIGHT = 1000000;
    private static final int MOST_ROWS = 16;
    private static final int MOST_STEPS = 30;
    private static final int MOST_FORCED = 64;

    private final Tables tables;
    private final Draws draws;
    private final Run run;

    public ResampledRows() {
        tables = new Tables();
        draws = new Draws();
        run = new Run();
    }

    public int start(int state, int w) {
        if (!isState(state)) {
            return UNKNOWN;
        }
        if (!isEntry(w)) {
            return OUTSIDE;
        }
        return exchange(tables.starts, state, w);
    }

    public int move(int from, int to, int w) {
        if (!isState(from) || !isState(to)) {
            return UNKNOWN;
        }
        if (!isEntry(w)) {
            return OUTSIDE;
        }
        return exchange(tables.moves[from], to, w);
    }

    public int seen(int sight, int state, int w) {
        if (!isSight(sight) || !isState(state)) {
            return UNKNOWN;
        }
        if (!isEntry(w)) {
            return OUTSIDE;
        }
        return exchange(tables.sights[sight], state, w);
    }

    public int named(int state, int name) {
        if (!isState(state)) {
            return UNKNOWN;
        }
        if (!isName(name)) {
            return OUTSIDE;
        }
        return exchange(tables.names, state, name);
    }

    public int force(int draw) {
        if (draw < 0 || draws.left >= MOST_FORCED) {
            return OUTSIDE;
        }
        draws.addForced(draw);
        return draws.left;
    }

    public int begin(int n, long seed) {
        if (n < 0) {
            return REFUSED;
        }
        if (n == 0 || n > MOST_ROWS) {
            return OUTSIDE;
        }
        draws.x = seed;
        return run.beginWith(n, tables.starts, draws);
    }

    public int keep(int row) {
        if (!run.isBegun()) {
            return GONE;
        }
        if (row != NONE && !run.hasRow(row)) {
            return UNKNOWN;
        }
        int was = run.kept;
        run.kept = row;
        return was;
    }

    public int step(int sight, int name) {
        if (!run.isBegun()) {
            return GONE;
        }
        if (!isSight(sight)) {
            return UNKNOWN;
        }
        if (!isName(name)) {
            return OUTSIDE;
        }
        if (run.steps >= MOST_STEPS || !run.standsAt(name, tables.names)) {
            return GONE;
        }
        return run.goOn(tables.moves, tables.sights[sight], draws);
    }

    public int again(int way) {
        if (!run.isBegun()) {
            return GONE;
        }
        if (!isWay(way)) {
            return OUTSIDE;
        }
        return run.drawAnew(way, draws);
    }

    public int rule(int way, int part) {
        if (!run.isBegun()) {
            return GONE;
        }
        if (!isWay(way) || part < 1 || part > 100) {
            return OUTSIDE;
        }
        // Without any weight no part is fallen short of, yet that is LOST, too: drawAnew says so.
        if (run.total() == 0 || run.isEffectiveBelow(part)) {
            return run.drawAnew(way, draws);
        }
        return 0;
    }

    public int from(int k) {
        if (!run.isBegun()) {
            return GONE;
        }
        if (run.timesAnew == 0 || !run.hasRow(k)) {
            return UNKNOWN;
        }
        return run.origins[k];
    }

    public int row(int row, int what) {
        if (!run.isBegun()) {
            return GONE;
        }
        if (!run.hasRow(row)) {
            return UNKNOWN;
        }
        switch (what) {
            case 0:
                return run.states[row];
            case 1:
                return run.places();
            default:
                return OUTSIDE;
        }
    }

    public long weight(int row) {
        if (!run.isBegun()) {
            return GONE;
        }
        if (!run.hasRow(row)) {
            return UNKNOWN;
        }
        return run.weights[row];
    }

    public int history(int row, int i) throws ArrayIndexOutOfBoundsException {
        if (!run.isBegun()) {
            return GONE;
        }
        if (!run.hasRow(row)) {
            return UNKNOWN;
        }
        if (!run.hasPlace(i)) {
            throw new ArrayIndexOutOfBoundsException("there is no such place");
        }
        return run.histories[row][i];
    }

    public int write(int row, int i, int state) {
        if (!run.isBegun()) {
            return GONE;
        }
        if (!run.hasRow(row) || !isState(state)) {
            return UNKNOWN;
        }
        if (!run.hasPlace(i)) {
            return OUTSIDE;
        }
        run.histories[row][i] = state;
        return 1;
    }

    public long told(int what) {
        if (!run.isBegun()) {
            return GONE;
        }
        switch (what) {
            case 0:
                return run.total();
            case 1:
                return run.squares();
            case 2:
                return run.effective();
            default:
                return OUTSIDE;
        }
    }

    public double evidence() {
        return run.isBegun() ? run.evidenceSoFar() : 0.0;
    }

    public int count(int what) {
        switch (what) {
            case 0:
                return run.n;
            case 1:
                return run.steps;
            case 2:
                return run.timesAnew;
            case 3:
                return draws.left;
            case 4:
                return run.kept;
            default:
                return OUTSIDE;
        }
    }

    public int clear() {
        int rows = run.n;
        tables.setAsAtFirst();
        draws.setAsAtFirst();
        run.end();
        return rows;
    }

    private static boolean isState(int state) {
        return state >= 0 && state < STATES;
    }

    private static boolean isSight(int sight) {
        return sight >= 0 && sight < SIGHTS;
    }

    private static boolean isName(int name) {
        return name >= 0 && name < NAMES;
    }

    private static boolean isWay(int way) {
        return way >= 0 && way < WAYS;
    }

    private static boolean isEntry(int w) {
        return w >= 0 && w <= GREATEST_ENTRY;
    }

    private static int exchange(int[] table, int at, int value) {
        int was = table[at];
        table[at] = value;
        return was;
    }

    private static long sumOf(int[] weights, int length) {
        long sum = 0;
        for (int k = 0; k < length; k++) {
            sum += weights[k];
        }
        return sum;
    }

    /** The first k for which times (w0 + .. + wk) is above the bound; LOST, if there is none. */
    private static int firstAbove(long bound, long times, int[] weights, int length) {
        long reached = 0;
        for (int k = 0; k < length; k++) {
            reached += times * weights[k];
            if (reached > bound) {
                return k;
            }
        }
        return LOST;
    }

    /** What is set by hand, and outlives every RUN. */
    private static final class Tables {
        final int[] starts = new int[STATES];
        final int[][] moves = new int[STATES][STATES];
        final int[][] sights = new int[SIGHTS][STATES];
        final int[] names = new int[STATES];

        Tables() {
            setAsAtFirst();
        }

        void setAsAtFirst() {
            Arrays.fill(starts, 1);
            for (int from = 0; from < STATES; from++) {
                Arrays.fill(moves[from], 1);
            }
            for (int sight = 0; sight < SIGHTS; sight++) {
                Arrays.fill(sights[sight], 1);
            }
            Arrays.fill(names, 0);
        }
    }

    /** Where DRAWS come from: the FORCED ones, held in a ring, and behind them the generator. */
    private static final class Draws {
        private static final long FACTOR = 6364136223846793005L;
        private static final long SUMMAND = 1442695040888963407L;

        final int[] forced = new int[MOST_FORCED];
        int first;
        int left;
        long x;

        void setAsAtFirst() {
            first = 0;
            left = 0;
            x = 0;
        }

        /** The caller has seen that there is room for one more. */
        void addForced(int draw) {
            forced[(first + left) % MOST_FORCED] = draw;
            left++;
        }

        /** A DRAW below m, which the caller has seen to be above 0. */
        long below(long m) {
            return m > 0 ? next() % m : 0;
        }

        private long next() {
            if (left > 0) {
                int draw = forced[first];
                first = (first + 1) % MOST_FORCED;
                left--;
                return draw;
            }
            x = x * FACTOR + SUMMAND;
            return x >>> 33;
        }

        /** LOST, without a DRAW, if the weights are 0 all together. */
        int byWeights(int[] weights, int length) {
            long sum = sumOf(weights, length);
            if (sum <= 0) {
                return LOST;
            }
            return firstAbove(below(sum), 1, weights, length);
        }
    }

    /** The ROWS in step; n is 0 as long as there is no RUN. */
    private static final class Run {
        final Picks picks = new Picks();
        final int[] origins = new int[MOST_ROWS];
        int n;
        int steps;
        int timesAnew;
        int kept = NONE;
        double multiplied = 1.0;
        int[] states = new int[MOST_ROWS];
        int[] weights = new int[MOST_ROWS];
        int[][] histories = new int[MOST_ROWS][MOST_STEPS + 1];
        // What comes next is built in these, so that a STEP that fails leaves no trace.
        int[] nextStates = new int[MOST_ROWS];
        int[] nextWeights = new int[MOST_ROWS];
        int[][] nextHistories = new int[MOST_ROWS][MOST_STEPS + 1];

        boolean isBegun() {
            return n > 0;
        }

        boolean hasRow(int row) {
            return row >= 0 && row < n;
        }

        /** How long a HISTORY is: all ROWS go in step, so all are of one length. */
        int places() {
            return steps + 1;
        }

        boolean hasPlace(int i) {
            return i >= 0 && i < places();
        }

        void end() {
            n = 0;
            steps = 0;
            timesAnew = 0;
            kept = NONE;
            multiplied = 1.0;
        }

        /** The RUN before is over even if this one is LOST. */
        int beginWith(int rows, int[] starts, Draws draws) {
            end();
            for (int row = 0; row < rows; row++) {
                int state = draws.byWeights(starts, STATES);
                if (state == LOST) {
                    return LOST;
                }
                states[row] = state;
                weights[row] = 1;
                histories[row][0] = state;
            }
            n = rows;
            return rows;
        }

        boolean standsAt(int name, int[] names) {
            for (int row = 0; row < n; row++) {
                if (names[states[row]] != name) {
                    return false;
                }
            }
            return true;
        }

        /** The caller has seen that there is room for one more STEP. */
        int goOn(int[][] moves, int[] sight, Draws draws) {
            for (int row = 0; row < n; row++) {
                int state = draws.byWeights(moves[states[row]], STATES);
                if (state == LOST) {
                    return LOST;
                }
                nextStates[row] = state;
            }
            for (int row = 0; row < n; row++) {
                nextWeights[row] = weights[row] * sight[nextStates[row]];
                if (nextWeights[row] > GREATEST_WEIGHT) {
                    return MUCH;
                }
            }
            takeNextStatesAndWeights();
            steps++;
            for (int row = 0; row < n; row++) {
                histories[row][steps] = states[row];
            }
            return steps;
        }

        private void takeNextStatesAndWeights() {
            int[] oldStates = states;
            states = nextStates;
            nextStates = oldStates;
            int[] oldWeights = weights;
            weights = nextWeights;
            nextWeights = oldWeights;
        }

        long total() {
            return sumOf(weights, n);
        }

        long squares() {
            long sum = 0;
            for (int row = 0; row < n; row++) {
                sum += (long) weights[row] * weights[row];
            }
            return sum;
        }

        long effective() {
            long squares = squares();
            return squares == 0 ? 0 : total() * total() / squares;
        }

        boolean isEffectiveBelow(int part) {
            return 100 * total() * total() < part * n * squares();
        }

        double evidenceSoFar() {
            return multiplied * (total() / (double) n);
        }

        int drawAnew(int way, Draws draws) {
            if (total() == 0) {
                return LOST;
            }
            multiplied = evidenceSoFar();
            picks.pick(way, this, draws);
            picks.putInOrder(origins, n);
            becomePicked();
            if (kept != NONE) {
                kept = firstThatWas(kept);
            }
            timesAnew++;
            return picks.unlike(n);
        }

        private void becomePicked() {
            for (int row = 0; row < n; row++) {
                int origin = origins[row];
                nextStates[row] = states[origin];
                nextWeights[row] = 1;
                System.arraycopy(histories[origin], 0, nextHistories[row], 0, places());
            }
            takeNextStatesAndWeights();
            int[][] oldHistories = histories;
            histories = nextHistories;
            nextHistories = oldHistories;
        }

        private int firstThatWas(int origin) {
            for (int row = 0; row < n; row++) {
                if (origins[row] == origin) {
                    return row;
                }
            }
            return NONE;
        }
    }

    /**
     * How often each ROW is picked. In which order that came about is of no account, since those
     * that are picked are put in the order of their numbers.
     */
    private static final class Picks {
        final int[] times = new int[MOST_ROWS];
        final int[] rests = new int[MOST_ROWS];

        void pick(int way, Run run, Draws draws) {
            Arrays.fill(times, 0);
            switch (way) {
                case 0:
                    pickEachByWeights(run, draws);
                    break;
                case 1:
                    pickWithDrawsOfTheirOwn(run, draws);
                    break;
                case 2:
                    pickWithOneDraw(run, draws);
                    break;
                default:
                    pickByPartsAndRests(run, draws);
                    putIn(run.kept, run.n);
                    break;
            }
        }

        void putInOrder(int[] order, int n) {
            int k = 0;
            for (int row = 0; row < n; row++) {
                for (int time = 0; time < times[row] && k < n; time++) {
                    order[k] = row;
                    k++;
                }
            }
        }

        int unlike(int n) {
            int unlike = 0;
            for (int row = 0; row < n; row++) {
                if (times[row] > 0) {
                    unlike++;
                }
            }
            return unlike;
        }

        private void add(int row) {
            if (row >= 0 && row < MOST_ROWS) {
                times[row]++;
            }
        }

        /** Which pick is the first one that is left to be made: the KEPT ROW is pick 0. */
        private int firstPickBehindKept(Run run) {
            if (run.kept == NONE) {
                return 0;
            }
            add(run.kept);
            return 1;
        }

        private void pickEachByWeights(Run run, Draws draws) {
            for (int k = firstPickBehindKept(run); k < run.n; k++) {
                add(draws.byWeights(run.weights, run.n));
            }
        }

        private void pickWithDrawsOfTheirOwn(Run run, Draws draws) {
            long total = run.total();
            for (int k = firstPickBehindKept(run); k < run.n; k++) {
                add(firstAbove(k * total + draws.below(total), run.n, run.weights, run.n));
            }
        }

        private void pickWithOneDraw(Run run, Draws draws) {
            long total = run.total();
            long draw = draws.below(total);
            for (int k = firstPickBehindKept(run); k < run.n; k++) {
                add(firstAbove(k * total + draw, run.n, run.weights, run.n));
            }
        }

        private void pickByPartsAndRests(Run run, Draws draws) {
            long total = run.total();
            if (total <= 0) {
                return;
            }
            int left = run.n;
            for (int row = 0; row < run.n; row++) {
                long share = (long) run.n * run.weights[row];
                times[row] = (int) (share / total);
                rests[row] = (int) (share % total);
                left -= times[row];
            }
            for (int k = 0; k < left; k++) {
                add(draws.byWeights(rests, run.n));
            }
        }

        private void putIn(int kept, int n) {
            if (kept < 0 || kept >= n || times[kept] > 0) {
                return;
            }
            for (int row = n - 1; row >= 0; row--) {
                if (times[row] > 0) {
                    times[row]--;
                    times[kept]++;
                    return;
                }
            }
        }
    }
}
