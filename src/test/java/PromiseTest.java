/**
 * The promises one by one, with answers that were worked out by hand from the document. FORCED
 * draws make each of them plain: with all of START and MOVE at 1, a FORCED s leads to STATE s.
 */
public final class PromiseTest {
    private static final int UNKNOWN = -1000001;
    private static final int OUTSIDE = -1000002;
    private static final int GONE = -1000003;
    private static final int LOST = -1000004;
    private static final int MUCH = -1000005;
    private static final int NONE = -1000009;
    private static final int REFUSED = -1000010;
    private static final int[] NOT_STATES = {-1, 6, 7, Integer.MIN_VALUE, Integer.MAX_VALUE, NONE};

    private static final Due due = new Due();

    public static void main(String[] args) {
        promise1NewObject();
        promise2Start();
        promise3Move();
        promise4Seen();
        promise5Named();
        promise6Force();
        promise7Begin();
        promise7BeginDraws();
        promise8Keep();
        promise9Step();
        promise9StepFails();
        promise9MostSteps();
        promise10Ways();
        promise10Kept();
        promise10KeptByThree();
        promise10Becomes();
        promise10Codes();
        promise11Rule();
        promise12From();
        promise13Row();
        promise14Weight();
        promise15History();
        promise16Write();
        promise17Told();
        promise18Evidence();
        promise19Count();
        promise20Clear();
        due.end();
    }

    // ---- what the tests build with

    private static void force(ResampledRows x, int... draws) {
        for (int draw : draws) {
            x.force(draw);
        }
    }

    private static ResampledRows begun(int... states) {
        ResampledRows x = new ResampledRows();
        force(x, states);
        x.begin(states.length, 1L);
        return x;
    }

    /** ROWS 0, 1, .. in STATES 0, 1, .. with these WEIGHTS (0 to 9), one STEP behind the start. */
    private static ResampledRows weighted(int... weights) {
        ResampledRows x = new ResampledRows();
        int[] states = new int[weights.length];
        for (int k = 0; k < weights.length; k++) {
            states[k] = k;
            x.seen(4, k, weights[k]);
        }
        force(x, states);
        x.begin(weights.length, 1L);
        force(x, states);
        x.step(4, 0);
        return x;
    }

    private static String origins(ResampledRows x) {
        StringBuilder text = new StringBuilder();
        for (int k = 0; k < x.count(0); k++) {
            text.append(x.from(k)).append(' ');
        }
        return text.toString().trim();
    }

    private static void drawn(String what, ResampledRows x, int got, int unlike, String origins) {
        due.is(what + ", unlike ROWS", got, unlike);
        due.isText(what + ", ROWS picked", origins(x), origins);
    }

    private static String history(ResampledRows x, int row) {
        StringBuilder text = new StringBuilder();
        for (int i = 0; i < x.row(row, 1); i++) {
            text.append(x.history(row, i));
        }
        return text.toString();
    }

    private static void closeMoves(ResampledRows x, int from) {
        for (int to = 0; to < 6; to++) {
            x.move(from, to, 0);
        }
    }

    private static boolean throwsNoPlace(ResampledRows x, int row, int i) {
        try {
            x.history(row, i);
            return false;
        } catch (ArrayIndexOutOfBoundsException e) {
            return e.getClass() == ArrayIndexOutOfBoundsException.class;
        }
    }

    private static void isTrue(String what, boolean got) {
        due.is(what, got ? 1 : 0, 1);
    }

    // ---- the promises

    private static void promise1NewObject() {
        ResampledRows x = new ResampledRows();
        for (int s = 0; s < 6; s++) {
            due.is("1 START", x.start(s, 1), 1);
            due.is("1 NAME", x.named(s, 0), 0);
            for (int t = 0; t < 6; t++) {
                due.is("1 MOVE", x.move(s, t, 1), 1);
            }
            for (int sight = 0; sight < 5; sight++) {
                due.is("1 SEEN", x.seen(sight, s, 1), 1);
            }
        }
        due.is("1 ROWS", x.count(0), 0);
        due.is("1 STEPS", x.count(1), 0);
        due.is("1 ANEW", x.count(2), 0);
        due.is("1 FORCED", x.count(3), 0);
        due.is("1 KEPT", x.count(4), NONE);
        due.is("1 told", x.told(0), GONE);
        due.is("1 evidence", x.evidence(), 0.0);
        ResampledRows other = new ResampledRows();
        other.start(0, 7);
        due.is("1 objects are apart", x.start(0, 1), 1);
    }

    private static void promise2Start() {
        ResampledRows x = new ResampledRows();
        due.is("2 was", x.start(0, 9), 1);
        due.is("2 was", x.start(0, 0), 9);
        due.is("2 was", x.start(5, 4), 1);
        due.is("2 was", x.start(0, 1), 0);
        for (int bad : NOT_STATES) {
            due.is("2 state " + bad, x.start(bad, 1), UNKNOWN);
            due.is("2 both " + bad, x.start(bad, 10), UNKNOWN);
        }
        due.is("2 w", x.start(5, 10), OUTSIDE);
        due.is("2 w", x.start(5, -1), OUTSIDE);
        due.is("2 w", x.start(5, Integer.MIN_VALUE), OUTSIDE);
        due.is("2 stays", x.start(5, 1), 4);
        // START 2, 0, 3, 0, 0, 0: draws below 5, and 5 is 0 again.
        int[] w = {2, 0, 3, 0, 0, 0};
        for (int s = 0; s < 6; s++) {
            x.start(s, w[s]);
        }
        force(x, 0, 1, 2, 4, 5);
        x.begin(5, 1L);
        int[] want = {0, 0, 2, 2, 0};
        for (int k = 0; k < 5; k++) {
            due.is("2 drawn " + k, x.row(k, 0), want[k]);
        }
    }

    private static void promise3Move() {
        ResampledRows x = new ResampledRows();
        due.is("3 was", x.move(0, 5, 9), 1);
        due.is("3 was", x.move(0, 5, 3), 9);
        due.is("3 not the other way", x.move(5, 0, 2), 1);
        for (int bad : NOT_STATES) {
            due.is("3 from " + bad, x.move(bad, 0, 1), UNKNOWN);
            due.is("3 to " + bad, x.move(0, bad, 1), UNKNOWN);
            due.is("3 all " + bad, x.move(0, bad, 10), UNKNOWN);
        }
        due.is("3 w", x.move(0, 5, 10), OUTSIDE);
        due.is("3 w", x.move(0, 5, -1), OUTSIDE);
        due.is("3 stays", x.move(0, 5, 0), 3);
        // From 0 only to 3 (weight 4) and 4 (weight 1).
        closeMoves(x, 0);
        x.move(0, 3, 4);
        x.move(0, 4, 1);
        force(x, 0, 0, 0, 0);
        x.begin(4, 1L);
        force(x, 3, 4, 5, 9);
        x.step(0, 0);
        due.is("3 drawn", x.row(0, 0), 3);
        due.is("3 drawn", x.row(1, 0), 4);
        due.is("3 drawn", x.row(2, 0), 3);
        due.is("3 drawn", x.row(3, 0), 4);
    }

    private static void promise4Seen() {
        ResampledRows x = new ResampledRows();
        due.is("4 was", x.seen(4, 5, 9), 1);
        due.is("4 was", x.seen(4, 5, 0), 9);
        for (int bad : NOT_STATES) {
            due.is("4 sight " + bad, x.seen(bad, 0, 1), UNKNOWN);
            due.is("4 state " + bad, x.seen(0, bad, 1), UNKNOWN);
            due.is("4 all " + bad, x.seen(bad, 0, -1), UNKNOWN);
        }
        due.is("4 sight 5", x.seen(5, 0, 1), UNKNOWN);
        due.is("4 w", x.seen(4, 5, 10), OUTSIDE);
        due.is("4 w", x.seen(4, 5, -1), OUTSIDE);
        due.is("4 stays", x.seen(4, 5, 1), 0);
        due.is("4 another", x.seen(3, 5, 1), 1);
        due.is("4 another", x.seen(4, 4, 1), 1);
    }

    private static void promise5Named() {
        ResampledRows x = new ResampledRows();
        due.is("5 was", x.named(5, 3), 0);
        due.is("5 was", x.named(5, 1), 3);
        for (int bad : NOT_STATES) {
            due.is("5 state " + bad, x.named(bad, 0), UNKNOWN);
            due.is("5 both " + bad, x.named(bad, 4), UNKNOWN);
        }
        due.is("5 name", x.named(5, 4), OUTSIDE);
        due.is("5 name", x.named(5, -1), OUTSIDE);
        due.is("5 stays", x.named(5, 0), 1);
        due.is("5 another", x.named(4, 0), 0);
    }

    private static void promise6Force() {
        ResampledRows x = new ResampledRows();
        due.is("6 below 0", x.force(-1), OUTSIDE);
        due.is("6 below 0", x.force(Integer.MIN_VALUE), OUTSIDE);
        for (int k = 1; k <= 64; k++) {
            due.is("6 how many", x.force(k), k);
        }
        due.is("6 the 65th", x.force(0), OUTSIDE);
        due.is("6 the 65th", x.force(0), OUTSIDE);
        due.is("6 left", x.count(3), 64);
        x.begin(16, 1L);
        due.is("6 left", x.count(3), 48);
        for (int k = 0; k < 16; k++) {
            due.is("6 first come first", x.row(k, 0), (k + 1) % 6);
        }
        for (int k = 65; k <= 80; k++) {
            due.is("6 room again", x.force(k), k - 16);
        }
        due.is("6 the 65th", x.force(0), OUTSIDE);
        for (int t = 1; t <= 4; t++) {
            x.step(0, 0);
            for (int k = 0; k < 16; k++) {
                due.is("6 in their order", x.row(k, 0), (16 * t + k + 1) % 6);
            }
        }
        due.is("6 none left", x.count(3), 0);
        x.force(Integer.MAX_VALUE);
        x.begin(1, 1L);
        due.is("6 modulo", x.row(0, 0), Integer.MAX_VALUE % 6);
    }

    private static void promise7Begin() {
        ResampledRows x = new ResampledRows();
        due.is("7 none", x.begin(0, 1L), OUTSIDE);
        due.is("7 17", x.begin(17, 1L), OUTSIDE);
        due.is("7 greatest", x.begin(Integer.MAX_VALUE, 1L), OUTSIDE);
        due.is("7 below 0", x.begin(-1, 1L), REFUSED);
        due.is("7 least", x.begin(Integer.MIN_VALUE, 1L), REFUSED);
        due.is("7 still no RUN", x.count(0), 0);
        force(x, 5, 4, 3);
        due.is("7 one", x.begin(1, 1L), 1);
        due.is("7 FORCED is left", x.count(3), 2);
        due.is("7 STATE", x.row(0, 0), 5);
        x.step(0, 0);
        x.again(0);
        x.keep(0);
        due.is("7 wrong n", x.begin(0, 1L), OUTSIDE);
        due.is("7 wrong n", x.begin(-1, 1L), REFUSED);
        due.is("7 the old RUN stays", x.count(0), 1);
        due.is("7 the old RUN stays", x.count(1), 1);
        due.is("7 the old RUN stays", x.count(4), 0);
        due.is("7 sixteen", x.begin(16, 1L), 16);
        due.is("7 STEPS anew", x.count(1), 0);
        due.is("7 ANEW anew", x.count(2), 0);
        due.is("7 KEPT anew", x.count(4), NONE);
        due.is("7 from anew", x.from(0), UNKNOWN);
        due.is("7 WEIGHT", x.weight(15), 1);
        due.is("7 EVIDENCE", x.evidence(), 1.0);
        for (int s = 0; s < 6; s++) {
            x.start(s, 0);
        }
        x.force(3);
        due.is("7 OUTSIDE before LOST", x.begin(17, 1L), OUTSIDE);
        due.is("7 refused before LOST", x.begin(-1, 1L), REFUSED);
        due.is("7 the old RUN stays", x.count(0), 16);
        due.is("7 LOST", x.begin(2, 1L), LOST);
        due.is("7 no RUN", x.count(0), 0);
        due.is("7 no RUN", x.row(0, 0), GONE);
        due.is("7 no DRAW", x.count(3), 1);
    }

    /** The generator, worked out here once more in wide numbers. */
    private static void promise7BeginDraws() {
        long[] seeds = {0L, 1L, 7L, -1L, Long.MIN_VALUE, Long.MAX_VALUE, 123456789012345L};
        java.math.BigInteger two64 = java.math.BigInteger.ONE.shiftLeft(64);
        for (long seed : seeds) {
            java.math.BigInteger v = java.math.BigInteger.valueOf(seed).mod(two64);
            ResampledRows x = new ResampledRows();
            x.begin(16, seed);
            for (int k = 0; k < 16; k++) {
                v = v.multiply(new java.math.BigInteger("6364136223846793005"))
                        .add(new java.math.BigInteger("1442695040888963407")).mod(two64);
                long draw = v.shiftRight(33).mod(java.math.BigInteger.valueOf(6)).longValue();
                due.is("7 seed " + seed + " row " + k, x.row(k, 0), draw);
            }
        }
        ResampledRows x = new ResampledRows();
        x.begin(3, 99L);
        int first = x.row(0, 0);
        int second = x.row(1, 0);
        x.force(first + 1);
        x.begin(3, 99L);
        due.is("7 a FORCED one leaves x", x.row(0, 0), (first + 1) % 6);
        due.is("7 a FORCED one leaves x", x.row(1, 0), first);
        due.is("7 a FORCED one leaves x", x.row(2, 0), second);
    }

    private static void promise8Keep() {
        ResampledRows x = new ResampledRows();
        due.is("8 no RUN", x.keep(0), GONE);
        due.is("8 no RUN", x.keep(99), GONE);
        due.is("8 no RUN", x.keep(NONE), GONE);
        x = begun(0, 1, 2);
        due.is("8 first", x.keep(2), NONE);
        due.is("8 instead", x.keep(0), 2);
        due.is("8 there is not", x.keep(3), UNKNOWN);
        due.is("8 there is not", x.keep(-1), UNKNOWN);
        due.is("8 there is not", x.keep(GONE), UNKNOWN);
        due.is("8 stays", x.count(4), 0);
        due.is("8 none", x.keep(NONE), 0);
        due.is("8 none again", x.keep(NONE), NONE);
        due.is("8 none", x.count(4), NONE);
        x.keep(1);
        x.step(0, 0);
        due.is("8 over a STEP", x.count(4), 1);
    }

    private static void promise9Step() {
        ResampledRows x = begun(0, 1, 2);
        x.seen(3, 4, 7);
        x.seen(3, 5, 0);
        force(x, 4, 5, 0);
        due.is("9 first", x.step(3, 0), 1);
        due.is("9 STATE", x.row(0, 0), 4);
        due.is("9 STATE", x.row(1, 0), 5);
        due.is("9 STATE", x.row(2, 0), 0);
        due.is("9 WEIGHT", x.weight(0), 7);
        due.is("9 WEIGHT", x.weight(1), 0);
        due.is("9 WEIGHT", x.weight(2), 1);
        force(x, 4, 4, 4);
        due.is("9 second", x.step(3, 0), 2);
        due.is("9 times", x.weight(0), 49);
        due.is("9 stays 0", x.weight(1), 0);
        due.is("9 times", x.weight(2), 7);
        due.isText("9 HISTORY", history(x, 1), "154");
        // The weights of the new STATE count, not those of the old one.
        force(x, 0, 0, 0);
        x.step(3, 0);
        due.is("9 new STATE", x.weight(0), 49);
        ResampledRows y = begun(0, 1);
        y.named(0, 2);
        y.named(1, 2);
        due.is("9 another NAME", y.step(0, 0), GONE);
        y.force(1);
        y.force(4);
        due.is("9 their NAME", y.step(0, 2), 1);
        due.is("9 not together", y.step(0, 2), GONE);
        due.is("9 not together", y.step(0, 0), GONE);
        y.named(4, 2);
        due.is("9 together again", y.step(0, 2), 2);
    }

    private static void promise9StepFails() {
        ResampledRows x = new ResampledRows();
        due.is("9 no RUN", x.step(0, 0), GONE);
        due.is("9 no RUN", x.step(9, 9), GONE);
        x = begun(0, 1, 2);
        int[] notSights = {-1, 5, Integer.MIN_VALUE, Integer.MAX_VALUE};
        for (int bad : notSights) {
            due.is("9 sight " + bad, x.step(bad, 0), UNKNOWN);
            due.is("9 both " + bad, x.step(bad, 4), UNKNOWN);
        }
        x.named(0, 1);
        due.is("9 NAME before where they stand", x.step(0, 4), OUTSIDE);
        due.is("9 NAME", x.step(0, -1), OUTSIDE);
        x.named(0, 0);
        closeMoves(x, 1);
        force(x, 3, 4, 5);
        due.is("9 LOST", x.step(0, 0), LOST);
        due.is("9 the first DRAW was made", x.count(3), 2);
        due.is("9 not done", x.row(0, 0), 0);
        due.is("9 not done", x.row(0, 1), 1);
        due.is("9 not done", x.count(1), 0);
        x.named(0, 1);
        due.is("9 GONE before LOST", x.step(0, 0), GONE);
        due.is("9 no DRAW was made", x.count(3), 2);

        ResampledRows y = begun(0, 0);
        y.seen(0, 5, 9);
        for (int t = 0; t < 6; t++) {
            force(y, 5, 0);
            y.step(0, 0);
        }
        due.is("9 near", y.weight(0), 531441);
        force(y, 5, 3);
        due.is("9 MUCH", y.step(0, 0), MUCH);
        due.is("9 DRAWS were made", y.count(3), 0);
        due.is("9 not done", y.count(1), 6);
        due.is("9 not done", y.row(1, 0), 0);
        due.is("9 not done", y.weight(1), 1);
        due.isText("9 not done", history(y, 0), "0555555");
        closeMoves(y, 0);
        force(y, 5);
        due.is("9 LOST before MUCH", y.step(0, 0), LOST);
        due.is("9 the first DRAW was made", y.count(3), 0);

        // 1000000 itself is not above: 8 8 5 5 5 5 5 5.
        ResampledRows z = begun(0);
        z.seen(0, 0, 8);
        z.seen(1, 0, 5);
        z.seen(2, 0, 2);
        for (int t = 0; t < 8; t++) {
            z.force(0);
            z.step(t < 2 ? 0 : 1, 0);
        }
        due.is("9 a million", z.weight(0), 1000000);
        z.force(0);
        due.is("9 above", z.step(2, 0), MUCH);
        z.force(0);
        due.is("9 not above", z.step(3, 0), 9);
        due.is("9 a million", z.weight(0), 1000000);
    }

    private static void promise9MostSteps() {
        ResampledRows x = begun(0, 1);
        for (int t = 1; t <= 30; t++) {
            due.is("9 STEP", x.step(0, 0), t);
        }
        force(x, 1);
        due.is("9 the 31st", x.step(0, 0), GONE);
        due.is("9 the 31st, UNKNOWN", x.step(5, 0), UNKNOWN);
        due.is("9 the 31st, OUTSIDE", x.step(0, 4), OUTSIDE);
        due.is("9 no DRAW", x.count(3), 1);
        due.is("9 thirty", x.count(1), 30);
        due.is("9 places", x.row(1, 1), 31);
        due.is("9 anew all the same", x.again(1), 2);
        due.is("9 the 31st", x.step(0, 0), GONE);
        x.begin(2, 1L);
        due.is("9 a new RUN", x.step(0, 0), 1);
    }

    private static void promise10Ways() {
        // WEIGHTS 1 2 3 4: T is 10; way 0 draws below 10, by the sums 1 3 6 10.
        ResampledRows x = weighted(1, 2, 3, 4);
        force(x, 9, 0, 13, 2);
        drawn("10 way 0", x, x.again(0), 4, "0 1 2 3");
        x = weighted(1, 2, 3, 4);
        force(x, 6, 9, 1, 6);
        drawn("10 way 0", x, x.again(0), 2, "1 3 3 3");
        due.is("10 four DRAWS", x.count(3), 0);
        // Way 1: 4 times the sums are 4 12 24 40; p is 0, 10, 20, 30 and the DRAW.
        x = weighted(1, 2, 3, 4);
        force(x, 4, 1, 4, 19, 7);
        drawn("10 way 1", x, x.again(1), 2, "1 1 3 3");
        due.is("10 four DRAWS", x.count(3), 1);
        x = weighted(1, 2, 3, 4);
        force(x, 3, 2, 3, 0);
        drawn("10 way 1", x, x.again(1), 3, "0 2 2 3");
        // Way 2: one DRAW.
        x = weighted(1, 2, 3, 4);
        force(x, 13, 5);
        drawn("10 way 2", x, x.again(2), 3, "0 2 2 3");
        due.is("10 one DRAW", x.count(3), 1);
        x = weighted(1, 2, 3, 4);
        force(x, 4);
        drawn("10 way 2", x, x.again(2), 3, "1 2 3 3");
        x = weighted(1, 2, 3, 4);
        force(x, 1);
        drawn("10 way 2", x, x.again(2), 4, "0 1 2 3");
        // Way 3: 4 w is 4 8 12 16: whole parts 0 0 1 1, rests 4 8 2 6, their sums 4 12 14 20.
        x = weighted(1, 2, 3, 4);
        force(x, 3, 4, 7);
        drawn("10 way 3", x, x.again(3), 4, "0 1 2 3");
        due.is("10 two DRAWS", x.count(3), 1);
        x = weighted(1, 2, 3, 4);
        force(x, 12, 34);
        drawn("10 way 3", x, x.again(3), 2, "2 2 3 3");
        // The rests are the same for each of the DRAWS: a ROW may come by two of them.
        x = weighted(1, 2, 3, 4);
        force(x, 4, 11);
        drawn("10 way 3", x, x.again(3), 3, "1 1 2 3");
        x = weighted(2, 0, 1, 1);
        force(x, 5);
        drawn("10 way 3, no rests", x, x.again(3), 3, "0 0 2 3");
        due.is("10 no DRAW", x.count(3), 1);
    }

    private static void promise10Kept() {
        ResampledRows x = weighted(1, 2, 3, 4);
        x.keep(1);
        force(x, 9, 6, 9, 5);
        drawn("10 kept, way 0", x, x.again(0), 2, "1 3 3 3");
        due.is("10 three DRAWS", x.count(3), 1);
        due.is("10 KEPT", x.count(4), 0);
        x = weighted(1, 2, 3, 4);
        x.keep(3);
        force(x, 0, 0, 1);
        drawn("10 kept, way 0", x, x.again(0), 3, "0 0 1 3");
        due.is("10 KEPT", x.count(4), 3);
        x = weighted(1, 2, 3, 4);
        x.keep(2);
        force(x, 5, 0, 3);
        drawn("10 kept, way 0", x, x.again(0), 2, "0 2 2 2");
        due.is("10 KEPT is the first", x.count(4), 1);
        x = weighted(1, 0, 1, 1);
        x.keep(1);
        force(x, 0, 1, 2);
        drawn("10 kept, of no WEIGHT", x, x.again(0), 4, "0 1 2 3");
        x = weighted(1, 2, 3, 4);
        x.keep(3);
        force(x, 2, 3, 0, 7);
        drawn("10 kept, way 1", x, x.again(1), 2, "2 2 3 3");
        due.is("10 three DRAWS", x.count(3), 1);
        due.is("10 KEPT is the first", x.count(4), 2);
        x = weighted(1, 2, 3, 4);
        x.keep(0);
        force(x, 4, 7);
        drawn("10 kept, way 2", x, x.again(2), 3, "0 2 3 3");
        due.is("10 one DRAW", x.count(3), 1);
        due.is("10 KEPT", x.count(4), 0);
        int[] leftByWay = {1, 1, 0, 1};
        for (int way = 0; way < 4; way++) {
            x = begun(5);
            x.keep(0);
            x.force(3);
            drawn("10 kept, alone", x, x.again(way), 1, "0");
            due.is("10 kept, alone, FORCED left by " + way, x.count(3), leftByWay[way]);
        }
    }

    private static void promise10KeptByThree() {
        ResampledRows x = weighted(1, 2, 3, 4);
        x.keep(0);
        force(x, 12, 14);
        drawn("10 kept, way 3", x, x.again(3), 3, "0 2 2 3");
        due.is("10 KEPT", x.count(4), 0);
        // 4 w is 16 12 8 4: whole parts 1 1 0 0, rests 6 2 8 4. ROW 2 is drawn first, then ROW 0.
        x = weighted(4, 3, 2, 1);
        x.keep(3);
        force(x, 8, 0);
        drawn("10 kept, the greatest number goes", x, x.again(3), 3, "0 0 1 3");
        due.is("10 KEPT", x.count(4), 3);
        x = weighted(4, 3, 2, 1);
        x.keep(1);
        force(x, 8, 0);
        drawn("10 kept, picked as it is", x, x.again(3), 3, "0 0 1 2");
        due.is("10 KEPT", x.count(4), 2);
        x = weighted(0, 5);
        x.keep(0);
        drawn("10 kept, of no WEIGHT", x, x.again(3), 2, "0 1");
        x = weighted(5, 0);
        x.keep(1);
        drawn("10 kept, of no WEIGHT", x, x.again(3), 2, "0 1");
        due.is("10 KEPT", x.count(4), 1);
    }

    private static void promise10Becomes() {
        ResampledRows x = weighted(1, 2, 3, 4);
        force(x, 6, 9, 1, 6);
        x.again(0);
        due.is("10 STATE", x.row(0, 0), 1);
        due.is("10 STATE", x.row(1, 0), 3);
        due.is("10 STATE", x.row(2, 0), 3);
        for (int k = 0; k < 4; k++) {
            due.is("10 WEIGHT", x.weight(k), 1);
            due.is("10 places", x.row(k, 1), 2);
        }
        due.isText("10 HISTORY", history(x, 0), "11");
        due.isText("10 HISTORY", history(x, 2), "33");
        force(x, 0, 1, 2, 3);
        x.step(0, 0);
        due.isText("10 HISTORY goes on", history(x, 0), "110");
        due.isText("10 HISTORY goes on", history(x, 1), "331");
        due.isText("10 HISTORY goes on", history(x, 2), "332");
        due.isText("10 HISTORY goes on", history(x, 3), "333");
        // Each new ROW is what the picked one was before, not what has been put in its place.
        x = weighted(4, 3, 2, 1);
        force(x, 8, 0);
        drawn("10 shifted", x, x.again(3), 3, "0 0 1 2");
        due.isText("10 shifted", history(x, 1) + history(x, 2) + history(x, 3), "001122");
        due.is("10 shifted STATE", x.row(3, 0), 2);
        x = weighted(1, 2, 3, 4);
        force(x, 9, 9, 9, 2);
        drawn("10 shifted the other way", x, x.again(0), 2, "1 3 3 3");
        due.isText("10 shifted the other way", history(x, 0) + history(x, 1), "1133");
    }

    private static void promise10Codes() {
        ResampledRows x = new ResampledRows();
        due.is("10 no RUN", x.again(0), GONE);
        due.is("10 no RUN", x.again(9), GONE);
        x = weighted(1, 2);
        int[] notWays = {-1, 4, Integer.MIN_VALUE, Integer.MAX_VALUE};
        for (int bad : notWays) {
            due.is("10 way " + bad, x.again(bad), OUTSIDE);
        }
        due.is("10 none", x.count(2), 0);
        x = weighted(0, 0);
        x.keep(1);
        x.force(3);
        for (int way = 0; way < 4; way++) {
            due.is("10 LOST", x.again(way), LOST);
        }
        due.is("10 OUTSIDE before LOST", x.again(4), OUTSIDE);
        due.is("10 no DRAW", x.count(3), 1);
        due.is("10 none", x.count(2), 0);
        due.is("10 none", x.from(0), UNKNOWN);
        due.is("10 KEPT stays", x.count(4), 1);
        due.is("10 WEIGHT stays", x.weight(0), 0);
        due.is("10 EVIDENCE stays", x.evidence(), 0.0);
    }

    private static void promise11Rule() {
        ResampledRows x = new ResampledRows();
        due.is("11 no RUN", x.rule(0, 50), GONE);
        due.is("11 no RUN", x.rule(9, 0), GONE);
        // T T is 100, Q 30: 10000 is below 120 part from 84 on. (EFFECTIVE cut off is 3.)
        x = weighted(1, 2, 3, 4);
        force(x, 6, 9, 1, 6);
        due.is("11 not", x.rule(0, 1), 0);
        due.is("11 not", x.rule(0, 83), 0);
        due.is("11 no DRAW", x.count(3), 4);
        due.is("11 none", x.count(2), 0);
        due.is("11 WEIGHT stays", x.weight(3), 4);
        drawn("11 drawn", x, x.rule(0, 84), 2, "1 3 3 3");
        due.is("11 one", x.count(2), 1);
        for (int way = 0; way < 4; way++) {
            due.is("11 all alike", x.rule(way, 100), 0);
            x = weighted(9, 0);
            x.force(0);
            due.is("11 just not", x.rule(way, 50), 0);
            drawn("11 just", x, x.rule(way, 51), 1, "0 0");
        }
        x = weighted(9, 0);
        x.keep(1);
        drawn("11 as again, kept", x, x.rule(3, 100), 2, "0 1");
        due.is("11 as again, KEPT", x.count(4), 1);
        int[] notWays = {-1, 4, Integer.MIN_VALUE, Integer.MAX_VALUE};
        for (int bad : notWays) {
            due.is("11 way " + bad, x.rule(bad, 50), OUTSIDE);
        }
        int[] notParts = {0, -1, 101, Integer.MIN_VALUE, Integer.MAX_VALUE};
        ResampledRows none = weighted(0, 0);
        for (int bad : notParts) {
            due.is("11 part " + bad, x.rule(0, bad), OUTSIDE);
            due.is("11 part before LOST " + bad, none.rule(0, bad), OUTSIDE);
        }
        for (int part = 1; part <= 100; part++) {
            due.is("11 LOST", none.rule(part % 4, part), LOST);
        }
        due.is("11 none", none.count(2), 0);
        promise11GreatNumbers();
    }

    /** The greatest WEIGHTS there are: 100 T T and part n Q need more than 32 bits, and 2 to 53. */
    private static void promise11GreatNumbers() {
        ResampledRows x = new ResampledRows();
        for (int s = 1; s < 6; s++) {
            x.start(s, 0);
            x.move(0, s, 0);
        }
        x.seen(0, 0, 8);
        x.seen(1, 0, 5);
        x.begin(16, 1L);
        for (int t = 0; t < 8; t++) {
            x.step(t < 2 ? 0 : 1, 0);
        }
        due.is("11 T", x.told(0), 16000000L);
        due.is("11 Q", x.told(1), 16000000000000L);
        due.is("11 EFFECTIVE", x.told(2), 16);
        due.is("11 EVIDENCE", x.evidence(), 1000000.0);
        due.is("11 all alike", x.rule(2, 100), 0);
        x.force(15999999);
        drawn("10 great numbers", x, x.again(2), 16, "0 1 2 3 4 5 6 7 8 9 10 11 12 13 14 15");
    }

    private static void promise12From() {
        ResampledRows x = new ResampledRows();
        due.is("12 no RUN", x.from(0), GONE);
        due.is("12 no RUN", x.from(-1), GONE);
        x = weighted(1, 2, 3, 4);
        due.is("12 none so far", x.from(0), UNKNOWN);
        force(x, 6, 9, 1, 6);
        x.again(0);
        due.is("12 k", x.from(0), 1);
        due.is("12 k", x.from(3), 3);
        int[] notRows = {-1, 4, 16, Integer.MIN_VALUE, Integer.MAX_VALUE};
        for (int bad : notRows) {
            due.is("12 k " + bad, x.from(bad), UNKNOWN);
        }
        force(x, 0, 1, 2, 2);
        x.step(0, 0);
        due.isText("12 over a STEP", origins(x), "1 3 3 3");
        due.is("12 not drawn", x.rule(0, 100), 0);
        due.isText("12 not drawn", origins(x), "1 3 3 3");
        force(x, 0, 0, 2, 2);
        x.again(0);
        due.isText("12 the latest", origins(x), "0 0 2 2");
        x.begin(4, 1L);
        due.is("12 of this RUN", x.from(0), UNKNOWN);
        x.clear();
        due.is("12 no RUN", x.from(0), GONE);
    }

    private static void promise13Row() {
        ResampledRows x = new ResampledRows();
        due.is("13 no RUN", x.row(0, 0), GONE);
        due.is("13 no RUN", x.row(-1, 9), GONE);
        x = begun(3, 5);
        due.is("13 STATE", x.row(1, 0), 5);
        due.is("13 places", x.row(1, 1), 1);
        x.force(4);
        x.step(0, 0);
        due.is("13 STATE", x.row(0, 0), 4);
        due.is("13 places", x.row(0, 1), 2);
        int[] notRows = {-1, 2, 16, Integer.MIN_VALUE, Integer.MAX_VALUE};
        for (int bad : notRows) {
            due.is("13 row " + bad, x.row(bad, 0), UNKNOWN);
            due.is("13 both " + bad, x.row(bad, 2), UNKNOWN);
        }
        due.is("13 what", x.row(0, 2), OUTSIDE);
        due.is("13 what", x.row(0, -1), OUTSIDE);
    }

    private static void promise14Weight() {
        ResampledRows x = new ResampledRows();
        due.is("14 no RUN", x.weight(0), GONE);
        due.is("14 no RUN", x.weight(-1), GONE);
        x = begun(3, 5);
        due.is("14 at first", x.weight(0), 1);
        x = weighted(3, 0, 9);
        due.is("14 seen", x.weight(0), 3);
        due.is("14 seen", x.weight(1), 0);
        due.is("14 seen", x.weight(2), 9);
        int[] notRows = {-1, 3, 16, Integer.MIN_VALUE, Integer.MAX_VALUE};
        for (int bad : notRows) {
            due.is("14 row " + bad, x.weight(bad), UNKNOWN);
        }
        x.again(0);
        due.is("14 drawn anew", x.weight(2), 1);
    }

    private static void promise15History() {
        ResampledRows x = new ResampledRows();
        due.is("15 no RUN", x.history(0, 0), GONE);
        due.is("15 no RUN", x.history(-1, -1), GONE);
        x = begun(3, 5);
        force(x, 1, 2);
        x.step(0, 0);
        due.is("15 place", x.history(0, 0), 3);
        due.is("15 place", x.history(0, 1), 1);
        due.is("15 place", x.history(1, 0), 5);
        due.is("15 place", x.history(1, 1), 2);
        int[] notRows = {-1, 2, 16, Integer.MIN_VALUE, Integer.MAX_VALUE};
        for (int bad : notRows) {
            due.is("15 row " + bad, x.history(bad, 0), UNKNOWN);
            due.is("15 row before place " + bad, x.history(bad, 9), UNKNOWN);
        }
        int[] notPlaces = {-1, 2, 30, 31, Integer.MIN_VALUE, Integer.MAX_VALUE};
        for (int bad : notPlaces) {
            isTrue("15 no place " + bad, throwsNoPlace(x, 1, bad));
        }
        for (int t = 0; t < 29; t++) {
            x.step(0, 0);
        }
        isTrue("15 the last place", !throwsNoPlace(x, 1, 30));
        isTrue("15 none behind", throwsNoPlace(x, 1, 31));
        // Places of an earlier, longer RUN are none of this one's.
        x.begin(2, 1L);
        isTrue("15 a new RUN", throwsNoPlace(x, 0, 1));
    }

    private static void promise16Write() {
        ResampledRows x = new ResampledRows();
        due.is("16 no RUN", x.write(0, 0, 0), GONE);
        due.is("16 no RUN", x.write(9, 9, 9), GONE);
        x = weighted(0, 5);
        force(x, 0, 0);
        x.again(0);
        due.isText("16 alike", history(x, 0) + history(x, 1), "1111");
        due.is("16 written", x.write(0, 0, 4), 1);
        due.is("16 written", x.write(0, 1, 5), 1);
        due.isText("16 alone", history(x, 0) + history(x, 1), "4511");
        due.is("16 its STATE stays", x.row(0, 0), 1);
        int[] notRows = {-1, 2, 16, Integer.MIN_VALUE, Integer.MAX_VALUE};
        for (int bad : notRows) {
            due.is("16 row " + bad, x.write(bad, 0, 0), UNKNOWN);
            due.is("16 row before place " + bad, x.write(bad, 2, 0), UNKNOWN);
        }
        for (int bad : NOT_STATES) {
            due.is("16 state " + bad, x.write(0, 0, bad), UNKNOWN);
            due.is("16 state before place " + bad, x.write(0, 2, bad), UNKNOWN);
        }
        int[] notPlaces = {-1, 2, 31, Integer.MIN_VALUE, Integer.MAX_VALUE};
        for (int bad : notPlaces) {
            due.is("16 place " + bad, x.write(0, bad, 0), OUTSIDE);
        }
        due.isText("16 nothing changes", history(x, 0) + history(x, 1), "4511");
        // The STEP goes on from the STATE, not from what is written.
        closeMoves(x, 5);
        force(x, 2, 3);
        due.is("16 goes on", x.step(0, 0), 2);
        due.isText("16 goes on", history(x, 0) + history(x, 1), "452113");
        force(x, 0, 0);
        x.again(0);
        due.isText("16 drawn anew as written", history(x, 1), "452");
        x.write(1, 2, 0);
        due.isText("16 alone", history(x, 0) + history(x, 1), "452450");
    }

    private static void promise17Told() {
        ResampledRows x = new ResampledRows();
        due.is("17 no RUN", x.told(0), GONE);
        due.is("17 no RUN", x.told(3), GONE);
        x = begun(0, 1, 2);
        due.is("17 T", x.told(0), 3);
        due.is("17 Q", x.told(1), 3);
        due.is("17 EFFECTIVE", x.told(2), 3);
        x = weighted(1, 2, 3, 4);
        due.is("17 T", x.told(0), 10);
        due.is("17 Q", x.told(1), 30);
        due.is("17 EFFECTIVE is cut off", x.told(2), 3);
        due.is("17 what", x.told(3), OUTSIDE);
        due.is("17 what", x.told(-1), OUTSIDE);
        x = weighted(0, 0);
        due.is("17 no WEIGHT", x.told(0), 0);
        due.is("17 no WEIGHT", x.told(1), 0);
        due.is("17 no WEIGHT", x.told(2), 0);
    }

    private static void promise18Evidence() {
        ResampledRows x = new ResampledRows();
        due.is("18 no RUN", x.evidence(), 0.0);
        x = begun(0, 1, 2);
        due.is("18 at first", x.evidence(), 1.0);
        x = weighted(1, 2, 3, 4);
        due.is("18 before", x.evidence(), 2.5);
        x.again(0);
        due.is("18 behind", x.evidence(), 2.5);
        x.again(1);
        due.is("18 once more", x.evidence(), 2.5);
        force(x, 0, 1, 2, 3);
        x.step(4, 0);
        due.is("18 times", x.evidence(), 6.25);
        x = weighted(1, 0, 0);
        due.is("18 thirds", x.evidence(), 1 / 3.0);
        x.again(3);
        force(x, 0, 1, 2);
        x.step(4, 0);
        due.is("18 thirds", x.evidence(), (1 / 3.0) * (1 / 3.0));
        x = weighted(0, 0);
        due.is("18 no WEIGHT", x.evidence(), 0.0);
        x.begin(2, 1L);
        due.is("18 a new RUN", x.evidence(), 1.0);
    }

    private static void promise19Count() {
        ResampledRows x = begun(0, 1, 2);
        x.step(0, 0);
        x.step(0, 0);
        x.again(0);
        x.keep(NONE);
        x.force(1);
        x.force(2);
        due.is("19 ROWS", x.count(0), 3);
        due.is("19 STEPS", x.count(1), 2);
        due.is("19 ANEW", x.count(2), 1);
        due.is("19 FORCED", x.count(3), 2);
        due.is("19 KEPT", x.count(4), NONE);
        x.keep(2);
        due.is("19 KEPT", x.count(4), 2);
        int[] notWhats = {-1, 5, Integer.MIN_VALUE, Integer.MAX_VALUE};
        for (int bad : notWhats) {
            due.is("19 what " + bad, x.count(bad), OUTSIDE);
            due.is("19 no RUN, what " + bad, new ResampledRows().count(bad), OUTSIDE);
        }
    }

    private static void promise20Clear() {
        ResampledRows x = new ResampledRows();
        due.is("20 no RUN", x.clear(), 0);
        x = weighted(2, 3, 4);
        for (int s = 0; s < 6; s++) {
            x.start(s, 2);
            x.named(s, 3);
            for (int t = 0; t < 6; t++) {
                x.move(s, t, 2);
            }
            for (int sight = 0; sight < 5; sight++) {
                x.seen(sight, s, 2);
            }
        }
        x.again(0);
        x.keep(1);
        force(x, 1, 2, 3);
        due.is("20 ROWS", x.clear(), 3);
        due.is("20 again", x.clear(), 0);
        for (int s = 0; s < 6; s++) {
            due.is("20 START", x.start(s, 1), 1);
            due.is("20 NAME", x.named(s, 0), 0);
            for (int t = 0; t < 6; t++) {
                due.is("20 MOVE", x.move(s, t, 1), 1);
            }
            for (int sight = 0; sight < 5; sight++) {
                due.is("20 SEEN", x.seen(sight, s, 1), 1);
            }
        }
        for (int what = 0; what < 4; what++) {
            due.is("20 count " + what, x.count(what), 0);
        }
        due.is("20 KEPT", x.count(4), NONE);
        due.is("20 no RUN", x.step(0, 0), GONE);
        due.is("20 no RUN", x.evidence(), 0.0);
        x.force(4);
        x.begin(1, 1L);
        due.is("20 FORCED anew", x.row(0, 0), 4);
        due.is("20 EVIDENCE anew", x.evidence(), 1.0);
    }
}
