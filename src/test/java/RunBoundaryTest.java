import java.math.BigInteger;
import java.util.function.Supplier;

/**
 * Rule ==== 2, sentence by sentence: n 1 to 16, what a RUN has at first, the STEP that is not done
 * at all, 30 STEPS at most, T, Q and EFFECTIVE.
 */
public final class RunBoundaryTest {
    private static final int UNKNOWN = -1000001;
    private static final int OUTSIDE = -1000002;
    private static final int GONE = -1000003;
    private static final int LOST = -1000004;
    private static final int MUCH = -1000005;
    private static final int NONE = -1000009;
    private static final int REFUSED = -1000010;

    private static final Due due = new Due();
    private static final Refusal refused = new Refusal(due);

    public static void main(String[] args) {
        nIsOneToSixteen();
        nBelowZeroIsRefused();
        aRunAtFirst();
        begunXIsTheSeed();
        allRowsStandAtTheName();
        whereTheyStandNotWhereTheyGo();
        eachRowInOrderFromItsState();
        weightsTimesSeenOfTheNewStates();
        aRowIsLost();
        itIsMuch();
        aMillionIsNotAbove();
        thirtyStepsAtMost();
        totalsAndSquares();
        effectiveIsCutOff();
        effectiveWhereSquaresAreZero();
        due.end();
    }

    private static void force(ResampledRows x, int... draws) {
        for (int draw : draws) {
            x.force(draw);
        }
    }

    private static ResampledRows begun(long seed, int... states) {
        ResampledRows x = new ResampledRows();
        force(x, states);
        x.begin(states.length, seed);
        return x;
    }

    private static void close(ResampledRows x, int from) {
        for (int to = 0; to < 6; to++) {
            x.move(from, to, 0);
        }
    }

    private static long advanced(long seed, int draws) {
        BigInteger x = BigInteger.valueOf(seed);
        for (int k = 0; k < draws; k++) {
            x = x.multiply(new BigInteger("6364136223846793005")).add(new BigInteger("1442695040888963407"));
        }
        return x.longValue();
    }

    private static void nIsOneToSixteen() {
        for (int n = 1; n <= 16; n++) {
            ResampledRows x = new ResampledRows();
            due.is("n 1 to 16", x.begin(n, 1L), n);
            due.is("ROWS 0 to n - 1", x.count(0), n);
            due.is("ROWS 0 to n - 1: the last", x.weight(n - 1), 1);
            due.is("ROWS 0 to n - 1: none behind", x.weight(n), UNKNOWN);
            due.is("ROWS 0 to n - 1: none before", x.weight(-1), UNKNOWN);
        }
        int[] wrong = {0, 17, 18, 256 + 4, Integer.MAX_VALUE};
        for (int n : wrong) {
            refused.in(Scene.values(), "OUTSIDE: n not below 17 and above 0: " + n, OUTSIDE, x -> x.begin(n, 5L));
        }
    }

    private static void nBelowZeroIsRefused() {
        int[] wrong = {-1, -2, -16, NONE, Integer.MIN_VALUE};
        for (int n : wrong) {
            refused.in(Scene.values(), "below 0: -1000010: " + n, REFUSED, x -> x.begin(n, 5L));
        }
    }

    private static void aRunAtFirst() {
        ResampledRows x = Scene.LAST_STEP.make();
        while (x.count(3) > 0) {
            x.begin(1, 1L);
        }
        force(x, 0, 20, 1);
        x.begin(3, 1L);
        // START is 1 to 6: 0 is STATE 0, 20 STATE 5, 1 STATE 1.
        due.isText("BEGUN behind another RUN", Look.rows(x),
                "3 0 0 0 -1000009 3 3 3 1.0; -1000001 1 0 0; -1000001 1 5 5; -1000001 1 1 1");
        for (int row = 0; row < 3; row++) {
            due.is("HISTORY from the first on", x.row(row, 1), 1);
            due.is("HISTORY from the first on", Refusal.history(x, row, 1), Refusal.THROWN);
        }
    }

    private static void begunXIsTheSeed() {
        ResampledRows x = Scene.LAST_STEP.make();
        x.force(0);
        force(x, 0, 0, 0, 0, 0, 0);
        x.begin(10, 31L);
        due.is("all FORCED ones are used up", x.count(3), 0);
        x.begin(16, 31L);
        String first = Look.states(x);
        x.step(0, 2);
        x.again(0);
        x.begin(16, 31L);
        due.isText("x is the seed, whatever was before", Look.states(x), first);
        ResampledRows other = new ResampledRows();
        for (int state = 0; state < 6; state++) {
            other.start(state, Scene.startOf(state));
        }
        other.begin(16, 31L);
        due.isText("x is the seed, in another object", Look.states(other), first);
        other.begin(16, 32L);
        due.is("another seed", Look.states(other).equals(first) ? 1 : 0, 0);
    }

    private static ResampledRows oneElsewhere(int elsewhere, int... left) {
        ResampledRows x = begun(4L, 0, 1, 2, 3);
        x.named(elsewhere, 3);
        force(x, left);
        return x;
    }

    private static void allRowsStandAtTheName() {
        for (int elsewhere = 0; elsewhere < 4; elsewhere++) {
            int state = elsewhere;
            String sentence = "GONE, if not all ROWS stand there: ROW " + elsewhere;
            refused.of(() -> oneElsewhere(state, 5, 4), sentence, GONE, x -> x.step(0, 0));
            refused.of(() -> oneElsewhere(state), sentence, GONE, x -> x.step(0, 0));
            refused.of(() -> oneElsewhere(state), sentence + ", its own NAME", GONE, x -> x.step(0, 3));
            refused.of(() -> oneElsewhere(state), sentence + ", a NAME of none", GONE, x -> x.step(0, 1));
        }
        refused.in(new Scene[] {Scene.MIDST}, "GONE: all stand elsewhere", GONE, x -> x.step(0, 0));
        refused.in(new Scene[] {Scene.MIDST}, "GONE: all stand elsewhere", GONE, x -> x.step(0, 3));
        // A STATE in which no ROW stands may have any NAME.
        due.is("all ROWS stand there", oneElsewhere(4).step(0, 0), 1);
        due.is("all ROWS stand there", oneElsewhere(5).step(0, 0), 1);
    }

    private static void whereTheyStandNotWhereTheyGo() {
        ResampledRows x = begun(4L, 0, 0);
        x.named(5, 1);
        force(x, 5, 5);
        due.is("the NAME of where they stand", x.step(0, 0), 1);
        due.is("the NAME of where they stand", x.step(0, 0), GONE);
        force(x, 0, 5);
        due.is("the NAME of where they stand", x.step(0, 1), 2);
        due.is("not all of one NAME", x.step(0, 0), GONE);
        due.is("not all of one NAME", x.step(0, 1), GONE);
        x.write(1, 2, 0);
        due.is("what is written is not where they stand", x.step(0, 0), GONE);
        x.named(5, 0);
        due.is("all of one NAME again", x.step(0, 0), 3);
    }

    private static void eachRowInOrderFromItsState() {
        ResampledRows x = begun(4L, 0, 1, 2);
        for (int from = 0; from < 3; from++) {
            close(x, from);
            x.move(from, from + 3, 9);
            x.move(from, 0, 1);
        }
        force(x, 0, 9, 1);
        due.is("a STEP", x.step(0, 0), 1);
        due.isText("each ROW in order BY MOVES from its STATE", Look.states(x), "045");
        due.isText("its HISTORY", Look.history(x, 0) + Look.history(x, 1) + Look.history(x, 2), "001425");
    }

    private static void weightsTimesSeenOfTheNewStates() {
        ResampledRows x = begun(4L, 0, 1, 2);
        x.seen(2, 0, 7);
        x.seen(2, 3, 2);
        x.seen(2, 4, 0);
        x.seen(2, 5, 9);
        force(x, 3, 4, 5);
        x.step(2, 0);
        due.is("times SEEN of the new STATE", x.weight(0), 2);
        due.is("times SEEN of the new STATE, 0", x.weight(1), 0);
        due.is("times SEEN of the new STATE", x.weight(2), 9);
        force(x, 5, 5, 4);
        x.step(2, 0);
        due.is("times, not instead of", x.weight(0), 18);
        due.is("0 stays 0", x.weight(1), 0);
        due.is("times 0", x.weight(2), 0);
        for (int t = 0; t < 9; t++) {
            force(x, 1, 5, 5);
            due.is("0 is never MUCH", x.step(2, 0), 3 + t);
        }
        due.is("0 stays 0", x.told(0), 18);
    }

    /** Four ROWS in STATES 0 to 3, heavy and drawn anew before; from one STATE there is no MOVE. */
    private static ResampledRows lostIn(int state, long seed, int... left) {
        ResampledRows x = begun(seed, 0, 1, 2, 3);
        for (int s = 0; s < 6; s++) {
            x.seen(1, s, s + 2);
        }
        x.keep(1);
        x.again(3);
        force(x, 0, 1, 2, 3);
        x.step(1, 0);
        close(x, state);
        force(x, left);
        return x;
    }

    /** (If a ROW is LOST in that, the STEP is not done at all.) DRAWS of the ROWS before were made. */
    private static void aRowIsLost() {
        int[] forced = {5, 4, 2, 1, 0};
        for (int row = 0; row < 4; row++) {
            int lost = row;
            String sentence = "LOST, the STEP is not done at all: ROW " + row;
            notDone(sentence + ", FORCED", LOST, 0, () -> lostIn(lost, 6L, forced), () -> lostIn(lost, 6L, from(forced, lost)));
            notDone(sentence + ", x", LOST, 0, () -> lostIn(lost, 6L), () -> lostIn(lost, advanced(6L, lost)));
        }
        notDone("LOST, FORCED ones run out", LOST, 0, () -> lostIn(3, 6L, 5), () -> lostIn(3, advanced(6L, 2)));
    }

    private static int[] from(int[] draws, int first) {
        return java.util.Arrays.copyOfRange(draws, first, draws.length);
    }

    private static void notDone(String sentence, int code, int sight, Supplier<ResampledRows> before, Supplier<ResampledRows> behind) {
        due.is(sentence, before.get().step(sight, 0), code);
        refused.alike(sentence, () -> {
            ResampledRows x = before.get();
            x.step(sight, 0);
            return x;
        }, behind);
    }

    /** Three ROWS in STATES 0 to 2, one of them 531441 heavy, SIGHT 1 of which weighs 2 everywhere. */
    private static ResampledRows heavyIn(int heavy, long seed, int... left) {
        ResampledRows x = begun(seed, 0, 1, 2);
        x.seen(0, heavy, 9);
        for (int t = 0; t < 6; t++) {
            force(x, 0, 1, 2);
            x.step(0, 0);
        }
        for (int state = 0; state < 6; state++) {
            x.seen(1, state, 2);
        }
        force(x, left);
        return x;
    }

    /** (Or it is MUCH: the STEP is not done at all.) All DRAWS of it were made. */
    private static void itIsMuch() {
        int[] forced = {5, 4, 3, 1, 0};
        for (int row = 0; row < 3; row++) {
            int heavy = row;
            String sentence = "MUCH, the STEP is not done at all: ROW " + row;
            notDone(sentence + ", FORCED", MUCH, 1, () -> heavyIn(heavy, 6L, forced), () -> heavyIn(heavy, 6L, from(forced, 3)));
            notDone(sentence + ", x", MUCH, 1, () -> heavyIn(heavy, 6L), () -> heavyIn(heavy, advanced(6L, 3)));
            due.is("not MUCH with another SIGHT", heavyIn(heavy, 6L).step(2, 0), 7);
        }
    }

    private static ResampledRows weighed(int... factors) {
        ResampledRows x = begun(4L, 0);
        close(x, 0);
        x.move(0, 0, 1);
        for (int factor : factors) {
            x.seen(0, 0, factor);
            x.step(0, 0);
        }
        return x;
    }

    private static void aMillionIsNotAbove() {
        ResampledRows x = weighed(8, 8, 5, 5, 5, 5, 5);
        due.is("near", x.weight(0), 200000);
        x.seen(0, 0, 5);
        due.is("1000000 is not above 1000000", x.step(0, 0), 8);
        due.is("1000000 is not above 1000000", x.weight(0), 1000000);
        x.seen(0, 0, 1);
        due.is("times 1", x.step(0, 0), 9);
        due.is("times 1", x.weight(0), 1000000);
        // 1000188 is the next above a million that is a product of numbers up to 9.
        x = weighed(4, 9, 9, 9, 7, 7);
        due.is("near", x.weight(0), 142884);
        x.seen(0, 0, 7);
        due.is("1000188 is above", x.step(0, 0), MUCH);
        due.is("1000188 is above", x.weight(0), 142884);
        x.seen(0, 0, 6);
        due.is("857304 is not", x.step(0, 0), 7);
        due.is("857304 is not", x.weight(0), 857304);
        x = weighed(8, 8, 5, 5, 5, 5, 5, 5);
        x.seen(0, 0, 9);
        due.is("9000000 is above", x.step(0, 0), MUCH);
        x.seen(0, 0, 0);
        due.is("0 is not", x.step(0, 0), 9);
        due.is("0 is not", x.weight(0), 0);
    }

    private static void thirtyStepsAtMost() {
        ResampledRows x = begun(4L, 0, 1);
        for (int t = 1; t <= 30; t++) {
            due.is("how many there were", x.step(0, 0), t);
            due.is("how many there were", x.count(1), t);
            due.is("HISTORY", x.row(1, 1), t + 1);
        }
        due.is("the 31st", x.step(0, 0), GONE);
        due.is("drawn anew at the end", x.again(1), 2);
        due.is("the 31st, drawn anew", x.step(0, 0), GONE);
        due.is("the HISTORY is as long", x.row(1, 1), 31);
        x.begin(2, 4L);
        for (int t = 1; t <= 30; t++) {
            due.is("a new RUN has its own 30", x.step(0, 0), t);
        }
        due.is("a new RUN has its own 30", x.step(0, 0), GONE);
        refused.of(Scene.LAST_STEP::make, "GONE (30 were)", GONE, y -> y.step(0, 2));
        // A STEP that was not done is none of the thirty.
        x.begin(2, 4L);
        x.step(0, 3);
        x.step(5, 0);
        for (int t = 1; t <= 30; t++) {
            due.is("those that were not done don't count", x.step(0, 0), t);
        }
    }

    private static void totalsAndSquares() {
        ResampledRows x = heavyIn(1, 6L);
        due.is("T", x.told(0), 531443L);
        due.is("Q", x.told(1), 531441L * 531441L + 2);
        due.is("EFFECTIVE", x.told(2), 1);
        x = new ResampledRows();
        force(x, new int[16]);
        x.begin(16, 4L);
        close(x, 0);
        x.move(0, 0, 1);
        int[] factors = {8, 8, 5, 5, 5, 5, 5, 5};
        for (int factor : factors) {
            x.seen(0, 0, factor);
            x.step(0, 0);
        }
        due.is("the greatest T", x.told(0), 16000000L);
        due.is("the greatest Q", x.told(1), 16000000000000L);
        due.is("the greatest EFFECTIVE", x.told(2), 16);
    }

    /** As many ROWS as there are weights (0 to 9), each by a STATE of its own. */
    private static ResampledRows weights(int... weights) {
        ResampledRows x = new ResampledRows();
        for (int k = 0; k < weights.length; k++) {
            x.force(k);
        }
        x.begin(weights.length, 4L);
        for (int k = 0; k < weights.length; k++) {
            x.seen(3, k, weights[k]);
            x.force(k);
        }
        x.step(3, 0);
        return x;
    }

    private static void effectiveIsCutOff() {
        due.is("T T / Q is 1", weights(9).told(2), 1);
        due.is("T T / Q is 2", weights(4, 4).told(2), 2);
        due.is("121 / 83, cut off", weights(9, 1, 1).told(2), 1);
        due.is("81 / 41, cut off", weights(5, 4).told(2), 1);
        due.is("289 / 145, cut off", weights(9, 8).told(2), 1);
        due.is("676 / 226, cut off", weights(9, 9, 8).told(2), 2);
        due.is("324 / 162", weights(9, 0, 9).told(2), 2);
    }

    private static void effectiveWhereSquaresAreZero() {
        ResampledRows x = weights(0, 0, 0);
        due.is("T is 0", x.told(0), 0);
        due.is("Q is 0", x.told(1), 0);
        due.is("0 if Q is 0", x.told(2), 0);
        due.is("0 if Q is 0", weights(0).told(2), 0);
        due.is("Q is not 0", weights(0, 0, 1).told(2), 1);
    }
}
