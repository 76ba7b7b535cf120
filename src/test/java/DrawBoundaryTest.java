import java.math.BigInteger;

/** Rule ==== 1, sentence by sentence: the FORCED ones, the wrap-around, BY WEIGHTS, LOST. */
public final class DrawBoundaryTest {
    private static final int OUTSIDE = -1000002;
    private static final int LOST = -1000004;
    private static final BigInteger TWO_64 = BigInteger.ONE.shiftLeft(64);

    private static final Due due = new Due();
    private static final Refusal refused = new Refusal(due);

    public static void main(String[] args) {
        theFirstForcedOneThatIsLeft();
        forcedOnesGoRoundTheirRoom();
        elseTheGenerator();
        forcedOnesLeaveTheGenerator();
        sixtyFourBitsWrapping();
        shiftedWithoutASign();
        moduloTheSum();
        belowOneIsADrawToo();
        theFirstOneThatIsAbove();
        weightsOfZeroAreNeverDrawn();
        lostMakesNoDraw();
        due.end();
    }

    private static void force(ResampledRows x, int... draws) {
        for (int draw : draws) {
            x.force(draw);
        }
    }

    private static void start(ResampledRows x, int... weights) {
        for (int state = 0; state < 6; state++) {
            x.start(state, weights[state]);
        }
    }

    /** x behind so many DRAWS. */
    private static long advanced(long seed, int draws) {
        BigInteger x = BigInteger.valueOf(seed).mod(TWO_64);
        for (int k = 0; k < draws; k++) {
            x = x.multiply(new BigInteger("6364136223846793005")).add(new BigInteger("1442695040888963407")).mod(TWO_64);
        }
        return x.longValue();
    }

    /** The DRAW behind so many others, below m. */
    private static int drawn(long seed, int others, int m) {
        BigInteger x = BigInteger.valueOf(advanced(seed, others + 1)).mod(TWO_64);
        return x.shiftRight(33).mod(BigInteger.valueOf(m)).intValueExact();
    }

    private static void theFirstForcedOneThatIsLeft() {
        ResampledRows x = new ResampledRows();
        force(x, 4, 1, 5);
        x.begin(2, 1L);
        due.isText("the first of THE FORCED ones that is left", Look.states(x), "41");
        due.is("one is left", x.count(3), 1);
        force(x, 0);
        x.step(0, 0);
        due.isText("the first of THE FORCED ones that is left", Look.states(x), "50");
        due.is("none is left", x.count(3), 0);
    }

    /** 64 at a time, four times over, each time begun at another place of their room. */
    private static void forcedOnesGoRoundTheirRoom() {
        ResampledRows x = new ResampledRows();
        int put = 0;
        int taken = 0;
        for (int round = 0; round < 12; round++) {
            while (put - taken < 64) {
                x.force(put % 6);
                put++;
            }
            due.is("the 65th", x.force(5), OUTSIDE);
            int n = 13 + round % 4;
            x.begin(n, 1L);
            for (int row = 0; row < n; row++) {
                due.is("FORCED in the order in which they came", x.row(row, 0), taken % 6);
                taken++;
            }
        }
    }

    private static void elseTheGenerator() {
        ResampledRows x = new ResampledRows();
        force(x, 2);
        x.begin(3, 77L);
        due.is("FORCED", x.row(0, 0), 2);
        due.is("else x", x.row(1, 0), drawn(77L, 0, 6));
        due.is("else x", x.row(2, 0), drawn(77L, 1, 6));
    }

    private static void forcedOnesLeaveTheGenerator() {
        ResampledRows x = new ResampledRows();
        x.begin(2, 77L);
        force(x, 3, 4);
        x.step(0, 0);
        due.isText("FORCED", Look.states(x), "34");
        x.step(0, 0);
        due.is("x goes on from where it was", x.row(0, 0), drawn(77L, 2, 6));
        due.is("x goes on from where it was", x.row(1, 0), drawn(77L, 3, 6));
    }

    private static void sixtyFourBitsWrapping() {
        long[] seeds = {0L, 1L, -1L, 2L, Long.MAX_VALUE, Long.MIN_VALUE, 1L << 32, -6364136223846793005L};
        for (long seed : seeds) {
            ResampledRows x = new ResampledRows();
            x.begin(16, seed);
            x.step(0, 0);
            for (int row = 0; row < 16; row++) {
                due.is("64 bits, wrapping, from " + seed, x.history(row, 0), drawn(seed, row, 6));
                due.is("64 bits, wrapping, from " + seed, x.history(row, 1), drawn(seed, 16 + row, 6));
            }
        }
    }

    /** The seed from which x becomes what is told. */
    private static long seedBefore(long x) {
        BigInteger factor = new BigInteger("6364136223846793005");
        BigInteger less = BigInteger.valueOf(x).subtract(new BigInteger("1442695040888963407"));
        return less.multiply(factor.modInverse(TWO_64)).mod(TWO_64).longValue();
    }

    private static void shiftedWithoutASign() {
        int[] sevens = {7, 0, 0, 0, 0, 0};
        // x: all bits set, only the topmost, only those that are shifted out, the last that is not.
        long[] xs = {-1L, Long.MIN_VALUE, (1L << 33) - 1, 1L << 33, Long.MAX_VALUE, 0L};
        int[] draws = {Integer.MAX_VALUE, 1 << 30, 0, 1, (1 << 30) - 1, 0};
        for (int k = 0; k < xs.length; k++) {
            ResampledRows x = new ResampledRows();
            for (int state = 0; state < 6; state++) {
                x.start(state, 9);
            }
            due.is("begun", x.begin(1, seedBefore(xs[k])), 1);
            due.is("x >>> 33 of " + xs[k], x.row(0, 0), draws[k] % 54 / 9);
            start(x, sevens);
            due.is("begun", x.begin(1, seedBefore(xs[k])), 1);
            due.is("x >>> 33 of " + xs[k] + ", one STATE", x.row(0, 0), 0);
        }
    }

    private static void moduloTheSum() {
        ResampledRows x = new ResampledRows();
        start(x, 9, 9, 9, 9, 9, 9);
        force(x, 53, 54, 55, 107, 108, Integer.MAX_VALUE, 0);
        x.begin(7, 1L);
        due.isText("modulo m", Look.states(x), "5005" + "0" + Integer.MAX_VALUE % 54 / 9 + "0");
    }

    /** Nothing is left to be decided, yet a DRAW is made: of the FORCED ones, or by x. */
    private static void belowOneIsADrawToo() {
        ResampledRows x = new ResampledRows();
        start(x, 0, 0, 0, 1, 0, 0);
        force(x, 0, 1, 2, Integer.MAX_VALUE, 5);
        x.begin(4, 1L);
        due.isText("modulo 1", Look.states(x), "3333");
        due.is("modulo 1, the DRAWS are made", x.count(3), 1);
        x.begin(3, 77L);
        due.is("modulo 1, the DRAWS are made", x.count(3), 0);
        x.step(0, 0);
        due.is("modulo 1, x has gone on by two", x.row(0, 0), drawn(77L, 2, 6));
        due.is("modulo 1, x has gone on by two", x.row(1, 0), drawn(77L, 3, 6));
    }

    private static void theFirstOneThatIsAbove() {
        ResampledRows x = new ResampledRows();
        start(x, 2, 1, 3, 1, 4, 9);
        force(x, 0, 1, 2, 3, 5, 6, 7, 10, 11, 19, 20);
        x.begin(11, 1L);
        due.isText("w0 + .. + wk is above it", Look.states(x), "00122344550");
    }

    private static void weightsOfZeroAreNeverDrawn() {
        ResampledRows x = new ResampledRows();
        start(x, 0, 0, 2, 0, 1, 0);
        force(x, 0, 1, 2, 3);
        x.begin(4, 1L);
        due.isText("none of weight 0, first, in between or last", Look.states(x), "2242");
        for (int to = 0; to < 6; to++) {
            x.move(2, to, to == 5 ? 1 : 0);
            x.move(4, to, to == 0 ? 9 : 0);
        }
        force(x, 7, 8, 8, 9);
        x.step(0, 0);
        due.isText("none of weight 0, first, in between or last", Look.states(x), "5505");
    }

    private static ResampledRows closed(long seed, int... left) {
        ResampledRows x = new ResampledRows();
        force(x, 1, 2);
        x.begin(2, seed);
        for (int to = 0; to < 6; to++) {
            x.move(1, to, 0);
        }
        force(x, left);
        return x;
    }

    private static void lostMakesNoDraw() {
        refused.of(() -> closed(5L, 4, 3), "LOST: no DRAW is made, FORCED", LOST, x -> x.step(0, 0));
        refused.of(() -> closed(5L), "LOST: no DRAW is made, x", LOST, x -> x.step(0, 0));
        ResampledRows x = new ResampledRows();
        start(x, 0, 0, 0, 0, 0, 0);
        force(x, 4, 3);
        due.is("LOST", x.begin(2, 5L), LOST);
        due.is("LOST: no DRAW is made", x.count(3), 2);
        start(x, 1, 1, 1, 1, 1, 1);
        x.begin(3, 5L);
        due.is("LOST: no DRAW is made", x.row(0, 0), 4);
        due.is("LOST: no DRAW is made", x.row(1, 0), 3);
        due.is("LOST: no DRAW is made", x.row(2, 0), drawn(5L, 0, 6));
    }
}
