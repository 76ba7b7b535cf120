/** What an object shows, and how it goes on: two objects are alike if all three texts are. */
final class Look {
    private Look() {
    }

    /** All that is told of the RUN and its ROWS; no call in it changes anything. */
    static String rows(ResampledRows x) {
        StringBuilder text = new StringBuilder();
        for (int what = 0; what < 5; what++) {
            text.append(x.count(what)).append(' ');
        }
        for (int what = 0; what < 3; what++) {
            text.append(x.told(what)).append(' ');
        }
        text.append(x.evidence());
        for (int row = 0; row < x.count(0); row++) {
            text.append("; ").append(x.from(row)).append(' ').append(x.weight(row)).append(' ').append(x.row(row, 0)).append(' ');
            text.append(history(x, row));
        }
        return text.toString();
    }

    static String history(ResampledRows x, int row) {
        StringBuilder text = new StringBuilder();
        for (int i = 0, places = x.row(row, 1); i < places; i++) {
            text.append(x.history(row, i));
        }
        return text.toString();
    }

    static String origins(ResampledRows x) {
        StringBuilder text = new StringBuilder();
        for (int k = 0, n = x.count(0); k < n; k++) {
            text.append(k == 0 ? "" : " ").append(x.from(k));
        }
        return text.toString();
    }

    static String states(ResampledRows x) {
        StringBuilder text = new StringBuilder();
        for (int row = 0, n = x.count(0); row < n; row++) {
            text.append(x.row(row, 0));
        }
        return text.toString();
    }

    /** TABLES are told only by a call that sets them, so each is set back at once. */
    static String tables(ResampledRows x) {
        StringBuilder text = new StringBuilder();
        for (int state = 0; state < 6; state++) {
            int start = x.start(state, 0);
            x.start(state, start);
            int name = x.named(state, 0);
            x.named(state, name);
            text.append(start).append(name).append(' ');
            for (int to = 0; to < 6; to++) {
                int move = x.move(state, to, 0);
                x.move(state, to, move);
                text.append(move);
            }
            for (int sight = 0; sight < 5; sight++) {
                int seen = x.seen(sight, state, 0);
                x.seen(sight, state, seen);
                text.append(seen);
            }
        }
        return text.toString();
    }

    /** DRAWS to come are told only by drawing them: the FORCED ones that are left, then x. */
    static String goesOn(ResampledRows x) {
        setTables(x, 1);
        StringBuilder text = new StringBuilder();
        for (int t = 0; t < 18; t++) {
            text.append(x.step(0, 0)).append(' ').append(states(x)).append("; ");
        }
        for (int t = 0; t < 4; t++) {
            text.append(x.again(0)).append(' ').append(origins(x)).append("; ");
        }
        for (int t = 0; t < 3; t++) {
            text.append(x.begin(16, t)).append(' ').append(states(x)).append("; ");
        }
        return text.append(x.count(3)).append(' ').append(x.clear()).toString();
    }

    /** All NAMES 0, all else w. */
    static void setTables(ResampledRows x, int w) {
        for (int state = 0; state < 6; state++) {
            x.start(state, w);
            x.named(state, 0);
            x.seen(0, state, w);
            for (int to = 0; to < 6; to++) {
                x.move(state, to, w);
            }
        }
    }
}
