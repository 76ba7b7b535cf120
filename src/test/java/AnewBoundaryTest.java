/** Rule ==== 3, sentence by sentence: LOST where T is 0, the WAYS, the KEPT ROW, EVIDENCE. */
public final class AnewBoundaryTest {
    private static final int UNKNOWN = -1000001;
    private static final int OUTSIDE = -1000002;
    private static final int LOST = -1000004;
    private static final int NONE = -1000009;

    private static final Due due = new Due();
    private static final Refusal refused = new Refusal(due);

    public static void main(String[] args) {
        lostIfTotalIsZero();
        notLostIfTotalIsOne();
        waysAreZeroToThree();
        putInTheOrderOfTheirNumbers();
        becomesAllThatThePickedOneIs();
        drawnAnewAgainAndAgain();
        weightsAreOne();
        oneRowAlone();
        aTotalOfOne();
        sixteenRows();
        wayZeroByWeights();
        wayOneADrawEach();
        wayTwoOneDrawForAll();
        wayThreeWholeParts();
        wayThreeRests();
        keptByWayZero();
        keptByWayOne();
        keptByWayTwo();
        keptByWayThreeTakesAPlace();
        keptByWayThreePickedAnyway();
        keptIsTheFirstOfItsLike();
        keptFromThenOn();
        noneKept();
        evidenceIsTimes();
        evidenceTold();
        due.end();
    }

    private static void force(ResampledRows x, int... draws) {
        for (int draw : draws) {
            x.force(draw);
        }
    }

    /** ROW k in STATE k, with these WEIGHTS (0 to 9), one STEP behind the start: HISTORY kk. */
    private static ResampledRows weights(int... weights) {
        ResampledRows x = new ResampledRows();
        for (int k = 0; k < weights.length; k++) {
            x.force(k);
        }
        x.begin(weights.length, 4L);
        for (int k = 0; k < weights.length; k++) {
            x.seen(3, k, weights[k]);
            x.force(k);
        }
        x.step(3, 0);
        return x;
    }

    private static ResampledRows keeping(int kept, int... weights) {
        ResampledRows x = weights(weights);
        x.keep(kept);
        return x;
    }

    /** Drawn anew with these FORCED ones: what is picked, and how many FORCED ones are left. */
    private static void picks(String sentence, ResampledRows x, int way, int[] forced, String picked, int left) {
        force(x, forced);
        int unlike = x.again(way);
        due.isText(sentence, Look.origins(x), picked);
        due.is(sentence + ", unlike ROWS", unlike, java.util.Arrays.stream(picked.split(" ")).distinct().count());
        due.is(sentence + ", FORCED ones left", x.count(3), left);
    }

    private static int[] draws(int... draws) {
        return draws;
    }

    private static void lostIfTotalIsZero() {
        for (int w = 0; w < 4; w++) {
            int way = w;
            String sentence = "LOST, if T is 0: WAY " + w;
            refused.of(Scene.WEIGHTLESS::make, sentence, LOST, x -> x.again(way));
            refused.of(() -> weights(0, 0, 0), sentence + ", none KEPT", LOST, x -> x.again(way));
            refused.of(() -> weights(0), sentence + ", one ROW", LOST, x -> x.again(way));
            refused.of(() -> keeping(0, 0), sentence + ", KEPT alone", LOST, x -> x.again(way));
        }
    }

    private static void notLostIfTotalIsOne() {
        for (int way = 0; way < 4; way++) {
            ResampledRows x = weights(0, 0, 1);
            due.is("T is 1", x.again(way), 1);
            due.isText("T is 1", Look.origins(x), "2 2 2");
        }
    }

    private static void waysAreZeroToThree() {
        int[] wrong = {-1, 4, 5, NONE, Integer.MIN_VALUE, Integer.MAX_VALUE};
        for (int way : wrong) {
            refused.in(Scene.WITH_RUN, "WAYS 0 to 3: again " + way, OUTSIDE, x -> x.again(way));
            refused.in(Scene.WITH_RUN, "WAYS 0 to 3: rule " + way, OUTSIDE, x -> x.rule(way, 100));
        }
    }

    private static void putInTheOrderOfTheirNumbers() {
        picks("in the order of their numbers", weights(1, 1, 1, 1), 0, draws(3, 2, 1, 0), "0 1 2 3", 0);
        picks("in the order of their numbers", weights(1, 1, 1, 1), 0, draws(3, 0, 3, 0), "0 0 3 3", 0);
        picks("in the order of their numbers", weights(1, 1, 1, 1), 0, draws(2, 2, 2, 1), "1 2 2 2", 0);
    }

    private static void becomesAllThatThePickedOneIs() {
        ResampledRows x = weights(1, 1, 1, 1);
        x.write(2, 0, 5);
        picks("the k-th picked one", x, 0, draws(2, 2, 1, 3), "1 2 2 3", 0);
        due.isText("its STATE", Look.states(x), "1223");
        due.isText("its HISTORY, too", Look.history(x, 0) + Look.history(x, 1) + Look.history(x, 2) + Look.history(x, 3), "11525233");
        // Downwards and upwards: what is overwritten first is still to be read.
        x = weights(1, 1, 1, 1);
        picks("moved up", x, 0, draws(0, 0, 1, 2), "0 0 1 2", 0);
        due.isText("moved up", Look.states(x) + Look.history(x, 3), "001222");
        x = weights(1, 1, 1, 1);
        picks("moved down", x, 0, draws(1, 2, 3, 3), "1 2 3 3", 0);
        due.isText("moved down", Look.states(x) + Look.history(x, 0), "123311");
        // Each has a HISTORY of its own from then on.
        force(x, 0, 1, 2, 3);
        x.step(0, 0);
        due.isText("HISTORIES go on by themselves", Look.history(x, 2) + Look.history(x, 3), "332333");
        x.write(3, 0, 0);
        due.isText("HISTORIES of each ROW's own", Look.history(x, 2) + Look.history(x, 3), "332033");
    }

    private static void drawnAnewAgainAndAgain() {
        ResampledRows x = weights(1, 1, 1, 1, 1);
        picks("once", x, 0, draws(0, 0, 1, 2, 4), "0 0 1 2 4", 0);
        picks("twice", x, 0, draws(1, 1, 2, 3, 4), "1 1 2 3 4", 0);
        picks("three times", x, 0, draws(0, 1, 2, 2, 3), "0 1 2 2 3", 0);
        due.isText("three times, STATES", Look.states(x), "00112");
        due.isText("three times, HISTORIES", Look.history(x, 2) + Look.history(x, 3) + Look.history(x, 4), "111122");
        due.is("how often DRAWN ANEW", x.count(2), 3);
        x.write(2, 0, 5);
        due.isText("HISTORIES of each ROW's own", Look.history(x, 2) + Look.history(x, 3), "5111");
    }

    private static void weightsAreOne() {
        ResampledRows x = weights(9, 0, 4);
        x.keep(1);
        x.again(2);
        for (int row = 0; row < 3; row++) {
            due.is("WEIGHTS are 1", x.weight(row), 1);
        }
        due.is("T", x.told(0), 3);
        due.is("Q", x.told(1), 3);
        due.is("STEPS stay", x.count(1), 1);
        due.is("HISTORIES are as long", x.row(2, 1), 2);
    }

    private static void oneRowAlone() {
        int[] made = {1, 1, 1, 0};
        int[] madeWithKept = {0, 0, 1, 0};
        for (int way = 0; way < 4; way++) {
            picks("n is 1, WAY " + way, weights(7), way, draws(6, 5), "0", 2 - made[way]);
            ResampledRows x = keeping(0, 7);
            picks("n is 1, KEPT, WAY " + way, x, way, draws(6, 5), "0", 2 - madeWithKept[way]);
            due.is("n is 1, KEPT", x.count(4), 0);
        }
    }

    /** A DRAW below 1 is made like any other. */
    private static void aTotalOfOne() {
        picks("T is 1, WAY 0", weights(0, 1, 0), 0, draws(7, 8, 9, 5), "1 1 1", 1);
        picks("T is 1, WAY 1", weights(0, 1, 0), 1, draws(7, 8, 9, 5), "1 1 1", 1);
        picks("T is 1, WAY 2", weights(0, 1, 0), 2, draws(7, 8, 9, 5), "1 1 1", 3);
        picks("T is 1, WAY 3", weights(0, 1, 0), 3, draws(7, 8, 9, 5), "1 1 1", 4);
    }

    /** Sixteen ROWS, the last one without a WEIGHT and KEPT: T is 15. */
    private static ResampledRows sixteen() {
        ResampledRows x = new ResampledRows();
        x.seen(3, 5, 0);
        for (int time = 0; time < 2; time++) {
            for (int k = 0; k < 16; k++) {
                x.force(k < 15 ? k % 5 : 5);
            }
        }
        x.begin(16, 4L);
        x.step(3, 0);
        x.keep(15);
        return x;
    }

    private static void sixteenRows() {
        int[] least = new int[16];
        int[] greatest = new int[16];
        java.util.Arrays.fill(greatest, 14);
        String ones = "1 2 3 4 5 6 7 8 9 10 11 12 13";
        picks("n is 16, WAY 0", sixteen(), 0, greatest, "14 14 14 14 14 14 14 14 14 14 14 14 14 14 14 15", 1);
        picks("n is 16, WAY 1", sixteen(), 1, least, "0 " + ones + " 14 15", 1);
        picks("n is 16, WAY 1", sixteen(), 1, greatest, ones + " 14 14 15", 1);
        picks("n is 16, WAY 2", sixteen(), 2, least, "0 " + ones + " 14 15", 15);
        picks("n is 16, WAY 2", sixteen(), 2, greatest, ones + " 14 14 15", 15);
        picks("n is 16, WAY 3", sixteen(), 3, least, "0 0 " + ones + " 15", 15);
        ResampledRows x = sixteen();
        picks("n is 16, WAY 3", x, 3, greatest, "0 " + ones + " 14 15", 15);
        due.is("n is 16, KEPT", x.count(4), 15);
        x.keep(NONE);
        x.force(15);
        due.is("n is 16, all alike", x.again(2), 16);
        due.isText("n is 16, all alike", Look.origins(x), "0 " + ones + " 14 15");
    }

    /** T is 10; the sums are 2 2 5 10. */
    private static void wayZeroByWeights() {
        picks("0: the least and the greatest DRAW", weights(2, 0, 3, 5), 0, draws(0, 9, 0, 9), "0 0 3 3", 0);
        picks("0: just below a sum", weights(2, 0, 3, 5), 0, draws(1, 4, 9, 1), "0 0 2 3", 0);
        picks("0: just at a sum", weights(2, 0, 3, 5), 0, draws(2, 5, 10, 2), "0 2 2 3", 0);
        picks("0: modulo T", weights(2, 0, 3, 5), 0, draws(11, 12, 15, 20), "0 0 2 3", 0);
        picks("0: each pick", weights(2, 0, 3, 5), 0, draws(0, 0, 0, 0, 9), "0 0 0 0", 1);
    }

    /** T is 10, n 4: n times the sums are 8 8 20 40; p is 0, 10, 20, 30 and the DRAW. */
    private static void wayOneADrawEach() {
        picks("1: the least DRAWS", weights(2, 0, 3, 5), 1, draws(0, 0, 0, 0), "0 2 3 3", 0);
        picks("1: the greatest DRAWS", weights(2, 0, 3, 5), 1, draws(9, 9, 9, 9), "2 2 3 3", 0);
        picks("1: just below", weights(2, 0, 3, 5), 1, draws(7, 9, 0, 9), "0 2 3 3", 0);
        picks("1: just at", weights(2, 0, 3, 5), 1, draws(8, 0, 0, 0), "2 2 3 3", 0);
        picks("1: modulo T", weights(2, 0, 3, 5), 1, draws(17, 10, 30, 19), "0 2 3 3", 0);
        picks("1: a DRAW each", weights(2, 0, 3, 5), 1, draws(0, 0, 0, 0, 9), "0 2 3 3", 1);
        // 12 and 36 times: p of pick 1 is 12 and the DRAW, just below and just at 3 times 6.
        picks("1: k T", weights(6, 6, 0), 1, draws(0, 5, 0), "0 0 1", 0);
        picks("1: k T", weights(6, 6, 0), 1, draws(0, 6, 0), "0 1 1", 0);
    }

    private static void wayTwoOneDrawForAll() {
        picks("2: the least DRAW", weights(2, 0, 3, 5), 2, draws(0, 9), "0 2 3 3", 1);
        picks("2: just below", weights(2, 0, 3, 5), 2, draws(7, 9), "0 2 3 3", 1);
        picks("2: just at", weights(2, 0, 3, 5), 2, draws(8, 0), "2 2 3 3", 1);
        picks("2: the greatest DRAW", weights(2, 0, 3, 5), 2, draws(9, 0), "2 2 3 3", 1);
        picks("2: modulo T", weights(2, 0, 3, 5), 2, draws(17, 8), "0 2 3 3", 1);
        picks("2: k T and the one DRAW", weights(6, 6, 0), 2, draws(5), "0 0 1", 0);
        picks("2: k T and the one DRAW", weights(6, 6, 0), 2, draws(6), "0 1 1", 0);
    }

    private static void wayThreeWholeParts() {
        // No rest at all: no DRAW.
        picks("3: all whole", weights(1, 1, 1), 3, draws(0), "0 1 2", 1);
        picks("3: all whole", weights(2, 0, 1, 1), 3, draws(0), "0 0 2 3", 1);
        picks("3: all of one", weights(0, 9, 0), 3, draws(0), "1 1 1", 1);
        // 4 w is 12 4 4 8, T 7: cut 1 0 0 1, rests 5 4 4 1, sums 5 9 13 14.
        picks("3: cut", weights(3, 1, 1, 2), 3, draws(0, 13, 5), "0 0 3 3", 1);
        // 3 w is 15 12 0, T 9: cut 1 1 0, rests 6 3 0.
        picks("3: cut", weights(5, 4, 0), 3, draws(5), "0 0 1", 0);
        picks("3: cut", weights(5, 4, 0), 3, draws(6), "0 1 1", 0);
        // 2 w is 18 16, T 17: a whole part by 1 alone, and just none.
        picks("3: just one whole, just none", weights(9, 8), 3, draws(0), "0 0", 0);
        picks("3: just one whole, just none", weights(9, 8), 3, draws(1), "0 1", 0);
    }

    /** 4 w is 12 4 4 8, T 7: cut 1 0 0 1, two are left BY the rests 5 4 4 1. */
    private static void wayThreeRests() {
        picks("3: just below", weights(3, 1, 1, 2), 3, draws(4, 8), "0 0 1 3", 0);
        picks("3: just at", weights(3, 1, 1, 2), 3, draws(5, 9), "0 1 2 3", 0);
        picks("3: the greatest", weights(3, 1, 1, 2), 3, draws(12, 13), "0 2 3 3", 0);
        picks("3: modulo their sum", weights(3, 1, 1, 2), 3, draws(14, 27), "0 0 3 3", 0);
        picks("3: one of them twice", weights(3, 1, 1, 2), 3, draws(5, 8), "0 1 1 3", 0);
        picks("3: as many as are left", weights(3, 1, 1, 2), 3, draws(5, 8, 5), "0 1 1 3", 1);
    }

    private static void keptByWayZero() {
        picks("KEPT, 0: pick 0 without a DRAW", keeping(1, 2, 0, 3, 5), 0, draws(9, 9, 9, 0), "1 3 3 3", 1);
        picks("KEPT, 0: picked by others, too", keeping(3, 2, 0, 3, 5), 0, draws(9, 0, 9, 0), "0 3 3 3", 1);
        picks("KEPT, 0: the first ROW", keeping(0, 2, 0, 3, 5), 0, draws(9, 9, 9, 0), "0 3 3 3", 1);
    }

    /** Pick 0 has no DRAW; pick 1 is the first that has one, and its p is still 1 T and that. */
    private static void keptByWayOne() {
        picks("KEPT, 1: pick 0 without a DRAW", keeping(1, 2, 0, 3, 5), 1, draws(9, 0, 9, 7), "1 2 3 3", 1);
        picks("KEPT, 1: instead of pick 0", keeping(3, 2, 0, 3, 5), 1, draws(0, 0, 0, 0), "2 3 3 3", 1);
        picks("KEPT, 1: p is k T and a DRAW", keeping(2, 6, 6, 0), 1, draws(5, 0, 0), "0 1 2", 1);
        picks("KEPT, 1: p is k T and a DRAW", keeping(2, 6, 6, 0), 1, draws(6, 0, 0), "1 1 2", 1);
    }

    private static void keptByWayTwo() {
        picks("KEPT, 2: the one DRAW is made", keeping(1, 2, 0, 3, 5), 2, draws(0, 9), "1 2 3 3", 1);
        picks("KEPT, 2: instead of pick 0", keeping(3, 2, 0, 3, 5), 2, draws(8, 9), "2 3 3 3", 1);
        picks("KEPT, 2: p is k T and the DRAW", keeping(2, 6, 6, 0), 2, draws(5), "0 1 2", 0);
        picks("KEPT, 2: p is k T and the DRAW", keeping(2, 6, 6, 0), 2, draws(6), "1 1 2", 0);
    }

    /** 4 w is 12 4 4 8, T 7: cut 1 0 0 1, rests 5 4 4 1, sums 5 9 13 14. */
    private static void keptByWayThreeTakesAPlace() {
        picks("KEPT, 3: the greatest number goes", keeping(1, 3, 1, 1, 2), 3, draws(0, 9), "0 0 1 2", 0);
        picks("KEPT, 3: not the latest DRAW", keeping(2, 3, 1, 1, 2), 3, draws(5, 0), "0 0 1 2", 0);
        picks("KEPT, 3: only one of the greatest goes", keeping(1, 3, 1, 1, 2), 3, draws(13, 13), "0 1 3 3", 0);
        // 4 w is 12 8 8 0, T 7: cut 1 1 1 0, rests 5 1 1 0. The DRAW is made, though its pick goes.
        picks("KEPT, 3: all DRAWS are made", keeping(3, 3, 2, 2, 0), 3, draws(13, 5), "0 1 2 3", 1);
        // 4 w is 12 4 12 0, T 7: cut 1 0 1 0, rests 5 4 5 0; ROW 3 is KEPT and has no WEIGHT.
        picks("KEPT, 3: of no WEIGHT", keeping(3, 3, 1, 3, 0), 3, draws(0, 9), "0 0 2 3", 0);
        picks("KEPT, 3: of no WEIGHT, the first", keeping(0, 0, 9), 3, draws(), "0 1", 0);
        picks("KEPT, 3: of no WEIGHT, the last", keeping(1, 9, 0), 3, draws(), "0 1", 0);
    }

    private static void keptByWayThreePickedAnyway() {
        picks("KEPT, 3: by its whole part", keeping(0, 3, 1, 1, 2), 3, draws(5, 9), "0 1 2 3", 0);
        picks("KEPT, 3: by a rest", keeping(1, 3, 1, 1, 2), 3, draws(5, 9), "0 1 2 3", 0);
        picks("KEPT, 3: by a rest, drawn last", keeping(2, 3, 1, 1, 2), 3, draws(0, 9), "0 0 2 3", 0);
        picks("KEPT, 3: the greatest number itself", keeping(3, 3, 1, 1, 2), 3, draws(0, 0), "0 0 0 3", 0);
    }

    private static void keptIsTheFirstOfItsLike() {
        for (int kept = 0; kept < 4; kept++) {
            ResampledRows x = keeping(kept, 1, 1, 1, 1);
            picks("KEPT moves", x, 0, draws(kept, kept, 0), kept == 0 ? "0 0 0 0" : "0 " + kept + " " + kept + " " + kept, 0);
            due.is("the first one of its like is KEPT", x.count(4), kept == 0 ? 0 : 1);
        }
        ResampledRows x = keeping(2, 1, 1, 1, 1);
        picks("KEPT moves up", x, 0, draws(0, 0, 1), "0 0 1 2", 0);
        due.is("KEPT moves up", x.count(4), 3);
        due.isText("KEPT moves up, its HISTORY", Look.history(x, 3), "22");
        x = keeping(3, 1, 1, 1, 1);
        picks("KEPT moves down", x, 0, draws(3, 3, 3), "3 3 3 3", 0);
        due.is("KEPT moves down", x.count(4), 0);
    }

    private static void keptFromThenOn() {
        ResampledRows x = keeping(2, 1, 1, 1, 1);
        picks("KEPT", x, 0, draws(3, 3, 3), "2 3 3 3", 0);
        due.is("KEPT from then on", x.count(4), 0);
        picks("KEPT again", x, 0, draws(3, 3, 3), "0 3 3 3", 0);
        due.is("KEPT from then on", x.count(4), 0);
        due.isText("KEPT, its HISTORY", Look.history(x, 0), "22");
        due.is("what was KEPT", x.keep(3), 0);
        picks("another is KEPT", x, 0, draws(1, 1, 2), "1 1 2 3", 0);
        due.is("another is KEPT", x.count(4), 3);
    }

    private static void noneKept() {
        ResampledRows x = keeping(1, 2, 0, 3, 5);
        due.is("what was KEPT", x.keep(NONE), 1);
        picks("NONE: none", x, 0, draws(0, 0, 0, 0, 9), "0 0 0 0", 1);
        due.is("NONE: none", x.count(4), NONE);
        // 4 w is 8 0 12 20, T 10: cut 0 0 1 2, rests 8 0 2 0.
        x = weights(2, 0, 3, 5);
        picks("none KEPT so far", x, 3, draws(0, 9), "0 2 3 3", 1);
        due.is("none KEPT so far", x.count(4), NONE);
    }

    /** EVIDENCE is times (T / (double) n), whichever the WAY is. */
    private static void evidenceIsTimes() {
        for (int way = 0; way < 4; way++) {
            ResampledRows x = weights(9, 0, 1);
            due.is("from 1.0 on, times 10 / 3", x.evidence(), 1.0 * (10 / 3.0));
            x.again(way);
            due.is("multiplied, and T is n", x.evidence(), 10 / 3.0);
            force(x, 0, 0, 2);
            x.step(3, 0);
            due.is("times 19 / 3", x.evidence(), (10 / 3.0) * (19 / 3.0));
            x.again(way);
            due.is("multiplied again", x.evidence(), (10 / 3.0) * (19 / 3.0));
            x.again(way);
            due.is("times 3 / 3", x.evidence(), (10 / 3.0) * (19 / 3.0));
        }
    }

    private static void evidenceTold() {
        due.is("no RUN", new ResampledRows().evidence(), 0.0);
        due.is("at first", begunWith(16).evidence(), 1.0);
        due.is("no WEIGHT", weights(0, 0).evidence(), 0.0);
        ResampledRows x = weights(1, 0, 0);
        due.is("less than 1", x.evidence(), 1 / 3.0);
        x.rule(0, 1);
        due.is("a rule that does not draw", x.evidence(), 1 / 3.0);
        x.again(4);
        due.is("a refused drawing", x.evidence(), 1 / 3.0);
        x.again(0);
        force(x, 1, 1, 1);
        x.step(3, 0);
        due.is("no WEIGHT behind a drawing", x.evidence(), 0.0);
        due.is("LOST", x.again(0), LOST);
        due.is("LOST leaves it", x.evidence(), 0.0);
        x.begin(2, 1L);
        due.is("a new RUN", x.evidence(), 1.0);
        due.is("a new RUN, none drawn anew", x.from(0), UNKNOWN);
        greatEvidence();
    }

    private static ResampledRows begunWith(int n) {
        ResampledRows x = new ResampledRows();
        x.begin(n, 1L);
        return x;
    }

    /** Thirty STEPS of 9 and a drawing anew behind each: more than a long holds. */
    private static void greatEvidence() {
        ResampledRows x = begunWith(2);
        for (int state = 0; state < 6; state++) {
            x.seen(0, state, 9);
        }
        double want = 1.0;
        for (int t = 0; t < 30; t++) {
            x.step(0, 0);
            want = want * 9.0;
            due.is("times 9", x.evidence(), want);
            x.again(t % 4);
            due.is("multiplied", x.evidence(), want);
        }
    }
}
