/** Promises 6 to 20: the bounds that each call's own line names, beyond those of the terms. */
public final class CallBoundaryTest {
    private static final int UNKNOWN = -1000001;
    private static final int OUTSIDE = -1000002;
    private static final int GONE = -1000003;
    private static final int LOST = -1000004;
    private static final int NONE = -1000009;

    private static final int[] NO_ROW = {-1, 4, 15, 16, UNKNOWN, GONE, Integer.MIN_VALUE, Integer.MAX_VALUE};

    private static final Due due = new Due();
    private static final Refusal refused = new Refusal(due);

    public static void main(String[] args) {
        force64AtMost();
        forceBelowZero();
        beginLeavesWhatWasForced();
        beginLostThenThereIsNoRun();
        keepInsteadOfAnother();
        keepUnknown();
        againHowManyUnlike();
        ruleJustBelowAndJustNot();
        ruleNotDrawn();
        rulePartOneToAHundred();
        ruleLostWhateverPartIs();
        fromThereIsNone();
        fromTheLatestOfThisRun();
        rowOfARow();
        weightUnknown();
        historyNoSuchPlace();
        writeOfThisRowAlone();
        writeNoSuchPlace();
        toldOutside();
        evidenceWithoutARun();
        countWithoutARun();
        countOutside();
        clearAllAsAtTheBeginning();
        objectsAreApart();
        due.end();
    }

    private static void force(ResampledRows x, int... draws) {
        for (int draw : draws) {
            x.force(draw);
        }
    }

    /** ROW k in STATE k, with these WEIGHTS (0 to 9), one STEP behind the start: HISTORY kk. */
    private static ResampledRows weights(int... weights) {
        ResampledRows x = new ResampledRows();
        for (int k = 0; k < weights.length; k++) {
            x.force(k);
        }
        x.begin(weights.length, 4L);
        for (int k = 0; k < weights.length; k++) {
            x.seen(3, k, weights[k]);
            x.force(k);
        }
        x.step(3, 0);
        return x;
    }

    private static ResampledRows forced(Scene scene, int many) {
        ResampledRows x = scene.make();
        for (int k = x.count(3); k < many; k++) {
            x.force(k);
        }
        return x;
    }

    private static void force64AtMost() {
        for (Scene scene : Scene.values()) {
            due.is("the 63rd", forced(scene, 62).force(0), 63);
            due.is("the 64th", forced(scene, 63).force(Integer.MAX_VALUE), 64);
            refused.of(() -> forced(scene, 64), "OUTSIDE: the 65th", OUTSIDE, x -> x.force(0));
            refused.of(() -> forced(scene, 64), "OUTSIDE: the 65th, below 0", OUTSIDE, x -> x.force(-1));
        }
        ResampledRows x = forced(Scene.NO_RUN, 64);
        x.begin(1, 1L);
        due.is("64 at most are left: one is gone", x.count(3), 63);
        due.is("64 at most are left: room for one", x.force(0), 64);
        due.is("64 at most are left: no room", x.force(0), OUTSIDE);
    }

    private static void forceBelowZero() {
        int[] wrong = {-1, -2, NONE, Integer.MIN_VALUE};
        for (int draw : wrong) {
            refused.in(Scene.values(), "OUTSIDE: below 0: " + draw, OUTSIDE, x -> x.force(draw));
        }
        due.is("0 is not below 0", Scene.MIDST.make().force(0), 4);
        due.is("the greatest", Scene.MIDST.make().force(Integer.MAX_VALUE), 4);
    }

    private static void beginLeavesWhatWasForced() {
        ResampledRows x = new ResampledRows();
        force(x, 5, 4, 3, 2, 1);
        x.begin(2, 1L);
        due.is("what was FORCED is left as it is", x.count(3), 3);
        x.begin(2, 1L);
        due.is("what was FORCED is left as it is", x.count(3), 1);
        due.isText("what was FORCED is left as it is", Look.states(x), "32");
        x.begin(0, 1L);
        x.begin(-1, 1L);
        due.is("refused, it is left, too", x.count(3), 1);
    }

    private static void beginLostThenThereIsNoRun() {
        ResampledRows x = Scene.MIDST.make();
        String tables = Look.tables(Scene.LOST_RUN.make());
        for (int state = 0; state < 6; state++) {
            x.start(state, 0);
        }
        due.is("LOST", x.begin(4, 5L), LOST);
        due.isText("then there is no RUN", Look.rows(x), "0 0 0 3 -1000009 -1000003 -1000003 -1000003 0.0");
        due.isText("but TABLES as they were", Look.tables(x), tables);
        due.is("LOST again", x.begin(1, 5L), LOST);
        x.start(4, 1);
        due.is("not LOST", x.begin(16, 5L), 16);
        due.isText("not LOST", Look.states(x), "4444444444444444");
        for (int row = 0; row < 16; row++) {
            due.is("not LOST: none drawn anew", x.from(row), UNKNOWN);
        }
        due.is("not LOST: none KEPT", x.count(4), NONE);
    }

    private static void keepInsteadOfAnother() {
        ResampledRows x = Scene.MIDST.make();
        due.is("what was KEPT", x.keep(0), 2);
        due.is("what was KEPT", x.keep(3), 0);
        due.is("what was KEPT", x.keep(3), 3);
        due.is("NONE: none", x.keep(NONE), 3);
        due.is("what was KEPT; NONE", x.keep(NONE), NONE);
        due.is("what was KEPT; NONE", x.keep(1), NONE);
        x.begin(4, 1L);
        due.is("a new RUN has none KEPT", x.keep(1), NONE);
    }

    private static void keepUnknown() {
        for (int row : NO_ROW) {
            refused.in(Scene.WITH_RUN, "keep, UNKNOWN: " + row, UNKNOWN, x -> x.keep(row));
        }
        refused.in(Scene.WITH_RUN, "keep, UNKNOWN: beside NONE", UNKNOWN, x -> x.keep(NONE - 1));
        refused.in(Scene.WITH_RUN, "keep, UNKNOWN: beside NONE", UNKNOWN, x -> x.keep(NONE + 1));
    }

    private static void againHowManyUnlike() {
        for (int unlike = 1; unlike <= 6; unlike++) {
            ResampledRows x = weights(1, 1, 1, 1, 1, 1);
            for (int k = 0; k < 6; k++) {
                x.force(k < unlike ? k : unlike - 1);
            }
            due.is("how many unlike ROWS were picked", x.again(0), unlike);
        }
        // ROWS that are alike in all but their number are unlike.
        ResampledRows x = new ResampledRows();
        x.begin(16, 1L);
        for (int state = 0; state < 6; state++) {
            x.start(state, state == 0 ? 1 : 0);
        }
        x.begin(16, 1L);
        due.is("unlike by their number alone", x.again(3), 16);
    }

    /** 100 T T below part n Q. */
    private static void ruleJustBelowAndJustNot() {
        // 100 81 is 8100, part 2 81 is 162 part: 50 is just not.
        due.is("just not", weights(9, 0).rule(0, 50), 0);
        due.is("just", weights(9, 0).rule(0, 51), 1);
        // 100 9 is 900, part 3 5 is 15 part: 60 is just not.
        due.is("just not", weights(2, 1, 0).rule(3, 60), 0);
        due.is("just", weights(2, 1, 0).rule(3, 61) == 0 ? 0 : 1, 1);
        // 100 100 is 10000, part 4 30 is 120 part: 83 is 9960, 84 is 10080.
        due.is("just not", weights(1, 2, 3, 4).rule(2, 83), 0);
        due.is("just", weights(1, 2, 3, 4).rule(2, 84) == 0 ? 0 : 1, 1);
        // EFFECTIVE cut off would be 1 of 2; as T T and Q are, it is 289 / 145 of 2, above 99 / 100.
        due.is("as T T and Q are, not cut off", weights(9, 8).rule(1, 99), 0);
        due.is("as T T and Q are, not cut off", weights(9, 8).rule(1, 100) == 0 ? 0 : 1, 1);
        due.is("all alike are never below", weights(7, 7, 7).rule(0, 100), 0);
        due.is("one alone is never below", weights(9).rule(0, 100), 0);
    }

    private static void ruleNotDrawn() {
        for (int w = 0; w < 4; w++) {
            int way = w;
            refused.of(Scene.MIDST::make, "0: it is not, WAY " + w, 0, x -> x.rule(way, 1));
            refused.of(() -> weights(9, 0), "0: it is not, WAY " + w, 0, x -> x.rule(way, 50));
            refused.of(() -> weights(7, 7), "0: it is not, WAY " + w, 0, x -> x.rule(way, 100));
            ResampledRows ruled = Scene.MIDST.make();
            ResampledRows again = Scene.MIDST.make();
            due.is("as again(), WAY " + w, ruled.rule(w, 100), again.again(w));
            due.isText("as again(), WAY " + w, Look.rows(ruled), Look.rows(again));
        }
    }

    private static void rulePartOneToAHundred() {
        int[] wrong = {0, -1, 101, 200, NONE, Integer.MIN_VALUE, Integer.MAX_VALUE};
        for (int part : wrong) {
            refused.in(Scene.WITH_RUN, "part 1 to 100: " + part, OUTSIDE, x -> x.rule(0, part));
            refused.in(Scene.WITH_RUN, "part 1 to 100, and the WAY: " + part, OUTSIDE, x -> x.rule(4, part));
        }
        due.is("part 1", weights(9, 0).rule(0, 1), 0);
        due.is("part 100", weights(9, 0).rule(0, 100), 1);
    }

    private static void ruleLostWhateverPartIs() {
        int[] parts = {1, 2, 50, 99, 100};
        for (int part : parts) {
            for (int w = 0; w < 4; w++) {
                int way = w;
                refused.of(Scene.WEIGHTLESS::make, "LOST (T is 0; whatever part is): " + part, LOST, x -> x.rule(way, part));
            }
        }
    }

    private static void fromThereIsNone() {
        for (int k : NO_ROW) {
            refused.in(Scene.WITH_RUN, "from, UNKNOWN: " + k, UNKNOWN, x -> x.from(k));
        }
        for (int row = -1; row <= 4; row++) {
            int k = row;
            refused.of(() -> weights(1, 2, 3, 4), "from, none drawn anew: " + k, UNKNOWN, x -> x.from(k));
        }
        ResampledRows x = weights(1, 2, 3, 4);
        due.is("rule that does not draw", x.rule(0, 1), 0);
        due.is("rule that does not draw", x.from(0), UNKNOWN);
        due.is("a refused one", x.again(4), OUTSIDE);
        due.is("a refused one", x.from(0), UNKNOWN);
        x = weights(0, 0);
        due.is("a LOST one", x.again(0), LOST);
        due.is("a LOST one", x.from(0), UNKNOWN);
    }

    private static void fromTheLatestOfThisRun() {
        ResampledRows x = weights(1, 1, 1);
        force(x, 0, 0, 2, 1, 1, 2);
        x.again(0);
        due.isText("the first", Look.origins(x), "0 0 2");
        x.step(5, 0);
        x.again(4);
        x.rule(0, 100);
        due.isText("still the latest", Look.origins(x), "0 0 2");
        x.again(0);
        due.isText("the latest", Look.origins(x), "1 1 2");
        x.begin(3, 1L);
        due.is("of this RUN", x.from(0), UNKNOWN);
        x.again(3);
        due.isText("of this RUN", Look.origins(x), "0 1 2");
    }

    private static void rowOfARow() {
        ResampledRows x = Scene.MIDST.make();
        for (int row = 0; row < 4; row++) {
            due.is("its STATE", x.row(row, 0), x.history(row, 3));
            due.is("how long its HISTORY is", x.row(row, 1), 4);
        }
        int[] wrong = {-1, 2, NONE, Integer.MIN_VALUE, Integer.MAX_VALUE};
        for (int what : wrong) {
            refused.in(Scene.WITH_RUN, "row, OUTSIDE: " + what, OUTSIDE, y -> y.row(0, what));
        }
        for (int row : NO_ROW) {
            refused.in(Scene.WITH_RUN, "row, UNKNOWN: " + row, UNKNOWN, y -> y.row(row, 0));
            refused.in(Scene.WITH_RUN, "row, UNKNOWN: " + row, UNKNOWN, y -> y.row(row, 1));
        }
    }

    private static void weightUnknown() {
        for (int row : NO_ROW) {
            refused.in(Scene.WITH_RUN, "weight, UNKNOWN: " + row, UNKNOWN, x -> x.weight(row));
        }
        due.is("the first", weights(9, 0, 4).weight(0), 9);
        due.is("the last", weights(9, 0, 4).weight(2), 4);
    }

    private static void historyNoSuchPlace() {
        int[] wrong = {-1, 31, 32, NONE, Integer.MIN_VALUE, Integer.MAX_VALUE};
        for (int i : wrong) {
            refused.in(Scene.WITH_RUN, "there is no such place: " + i, Refusal.THROWN, x -> Refusal.history(x, 0, i));
            refused.in(Scene.WITH_RUN, "there is no such place: " + i, Refusal.THROWN, x -> Refusal.history(x, 3, i));
        }
        for (int row : NO_ROW) {
            refused.in(Scene.WITH_RUN, "history, UNKNOWN: " + row, UNKNOWN, x -> Refusal.history(x, row, 0));
        }
        // Just behind the latest STEP, wherever that is.
        ResampledRows x = new ResampledRows();
        x.begin(2, 1L);
        for (int t = 0; t <= 30; t++) {
            due.is("the last place", Refusal.history(x, 1, t), x.row(1, 0));
            due.is("none behind the last place", Refusal.history(x, 1, t + 1), Refusal.THROWN);
            x.step(0, 0);
        }
        x.begin(2, 1L);
        due.is("none of an earlier RUN", Refusal.history(x, 1, 1), Refusal.THROWN);
        due.is("a STEP that is not done has no place", x.step(0, 1), GONE);
        due.is("a STEP that is not done has no place", Refusal.history(x, 1, 1), Refusal.THROWN);
    }

    private static void writeOfThisRowAlone() {
        ResampledRows x = weights(0, 1, 0);
        x.again(0);
        due.is("written at the first place", x.write(0, 0, 5), 1);
        due.is("written at the last place", x.write(1, 1, 4), 1);
        due.is("written as it was", x.write(2, 0, 1), 1);
        due.isText("of this ROW's alone", Look.history(x, 0) + Look.history(x, 1) + Look.history(x, 2), "511411");
        due.isText("(Its STATE stays.)", Look.states(x), "111");
        due.is("and its WEIGHT", x.weight(0), 1);
        for (int to = 0; to < 6; to++) {
            x.move(4, to, 0);
            x.move(1, to, to == 2 ? 1 : 0);
        }
        due.is("it goes on from its STATE", x.step(0, 0), 2);
        due.isText("it goes on from its STATE", Look.history(x, 0) + Look.history(x, 1) + Look.history(x, 2), "512142112");
        x.begin(3, 4L);
        x.step(0, 0);
        due.is("a new RUN has nothing of it", x.history(0, 0), begunAlike().history(0, 0));
    }

    private static ResampledRows begunAlike() {
        ResampledRows x = new ResampledRows();
        x.begin(3, 4L);
        return x;
    }

    private static void writeNoSuchPlace() {
        int[] wrong = {-1, 31, 32, NONE, Integer.MIN_VALUE, Integer.MAX_VALUE};
        for (int i : wrong) {
            refused.in(Scene.WITH_RUN, "write, OUTSIDE: " + i, OUTSIDE, x -> x.write(0, i, 3));
        }
        refused.of(Scene.MIDST::make, "write, OUTSIDE: just behind", OUTSIDE, x -> x.write(3, 4, 3));
        refused.of(Scene.WEIGHTLESS::make, "write, OUTSIDE: just behind", OUTSIDE, x -> x.write(3, 5, 3));
        due.is("the last place there can be", Scene.LAST_STEP.make().write(3, 30, 3), 1);
        for (int row : NO_ROW) {
            refused.in(Scene.WITH_RUN, "write, UNKNOWN: " + row, UNKNOWN, x -> x.write(row, 0, 3));
        }
    }

    private static void toldOutside() {
        int[] wrong = {-1, 3, NONE, Integer.MIN_VALUE, Integer.MAX_VALUE};
        for (int what : wrong) {
            refused.in(Scene.WITH_RUN, "told, OUTSIDE: " + what, OUTSIDE, x -> x.told(what));
        }
        refused.in(Scene.WITH_RUN, "told changes nothing", 0, x -> x.told(0) * 0);
    }

    private static void evidenceWithoutARun() {
        for (Scene scene : Scene.WITHOUT_RUN) {
            due.is("0.0: there is no RUN", scene.make().evidence(), 0.0);
        }
        refused.in(Scene.values(), "evidence changes nothing", 0, x -> x.evidence() < 0 ? 1 : 0);
    }

    private static void countWithoutARun() {
        for (Scene scene : Scene.WITHOUT_RUN) {
            ResampledRows x = scene.make();
            due.is("0: no RUN", x.count(0), 0);
            due.is("no STEPS", x.count(1), 0);
            due.is("none drawn anew", x.count(2), 0);
            due.is("FORCED ones, without a RUN, too", x.count(3), 3);
            due.is("the KEPT ROW; NONE", x.count(4), NONE);
        }
        ResampledRows x = Scene.MIDST.make();
        int[] want = {4, 3, 1, 3, 2};
        for (int what = 0; what < 5; what++) {
            due.is("count " + what, x.count(what), want[what]);
        }
    }

    private static void countOutside() {
        int[] wrong = {-1, 5, NONE, Integer.MIN_VALUE, Integer.MAX_VALUE};
        for (int what : wrong) {
            refused.in(Scene.values(), "count, OUTSIDE: " + what, OUTSIDE, x -> x.count(what));
        }
    }

    private static void clearAllAsAtTheBeginning() {
        int[] rows = {0, 4, 4, 4, 0, 0};
        for (Scene scene : Scene.values()) {
            due.is("how many ROWS there were", scene.make().clear(), rows[scene.ordinal()]);
            refused.alike("all is as at the beginning, behind " + scene, () -> {
                ResampledRows x = scene.make();
                x.clear();
                return x;
            }, ResampledRows::new);
        }
        ResampledRows x = forced(Scene.NO_RUN, 64);
        x.clear();
        due.is("no FORCED one is left", x.count(3), 0);
        for (int k = 1; k <= 64; k++) {
            due.is("room for 64 again", x.force(k), k);
        }
        due.is("the 65th", x.force(0), OUTSIDE);
        x.begin(16, 1L);
        due.isText("in their order", Look.states(x), "1234501234501234");
        due.is("the greatest number of ROWS", x.clear(), 16);
        due.is("none any more", x.clear(), 0);
    }

    private static void objectsAreApart() {
        ResampledRows x = Scene.MIDST.make();
        String before = Look.rows(x);
        ResampledRows other = Scene.MIDST.make();
        other.step(4, 2);
        other.write(0, 0, 0);
        other.keep(NONE);
        other.force(1);
        due.isText("another object changes nothing here", Look.rows(x), before);
        other.clear();
        due.isText("another object changes nothing here", Look.rows(x), before);
        refused.alike("another object changes nothing here", () -> {
            ResampledRows y = Scene.MIDST.make();
            Scene.LAST_STEP.make().begin(16, 2L);
            return y;
        }, Scene.MIDST::make);
    }
}
