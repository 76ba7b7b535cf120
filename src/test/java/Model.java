import java.math.BigInteger;
import java.util.ArrayDeque;
import java.util.ArrayList;
import java.util.Collections;
import java.util.HashSet;
import java.util.List;

/**
 * The document read a second time, as literally as it goes and with no care for speed: what is
 * multiplied and added is a BigInteger, what is picked is a list that is sorted.
 */
final class Model {
    static final long UNKNOWN = -1000001, OUTSIDE = -1000002, GONE = -1000003, LOST = -1000004, MUCH = -1000005, NONE = -1000009;

    private static final BigInteger TWO_64 = BigInteger.ONE.shiftLeft(64);
    private static final BigInteger FACTOR = new BigInteger("6364136223846793005");
    private static final BigInteger SUMMAND = new BigInteger("1442695040888963407");

    private static final class Row {
        int state;
        BigInteger weight = BigInteger.ONE;
        List<Integer> history = new ArrayList<>();
    }

    private List<BigInteger> start;
    private List<List<BigInteger>> move;
    private List<List<BigInteger>> seen;
    private List<Integer> names;
    private ArrayDeque<Integer> forced;
    private BigInteger x = BigInteger.ZERO;
    private List<Row> rows;
    private int steps;
    private int anew;
    private Row kept;
    private List<Integer> origins;
    private double multiplied;

    Model() {
        clear();
    }

    private static List<BigInteger> ones() {
        return new ArrayList<>(Collections.nCopies(6, BigInteger.ONE));
    }

    private static long put(List<BigInteger> table, int at, int w) {
        return table.set(at, BigInteger.valueOf(w)).longValue();
    }

    private static boolean in(int number, int count) {
        return 0 <= number && number <= count - 1;
    }

    long start(int state, int w) {
        return !in(state, 6) ? UNKNOWN : !in(w, 10) ? OUTSIDE : put(start, state, w);
    }

    long move(int from, int to, int w) {
        return !in(from, 6) || !in(to, 6) ? UNKNOWN : !in(w, 10) ? OUTSIDE : put(move.get(from), to, w);
    }

    long seen(int sight, int state, int w) {
        return !in(sight, 5) || !in(state, 6) ? UNKNOWN : !in(w, 10) ? OUTSIDE : put(seen.get(sight), state, w);
    }

    long named(int state, int name) {
        return !in(state, 6) ? UNKNOWN : !in(name, 4) ? OUTSIDE : names.set(state, name);
    }

    long force(int draw) {
        if (draw < 0 || forced.size() == 64) {
            return OUTSIDE;
        }
        forced.addLast(draw);
        return forced.size();
    }

    private BigInteger draw(BigInteger m) {
        if (!forced.isEmpty()) {
            return BigInteger.valueOf(forced.removeFirst()).mod(m);
        }
        x = x.multiply(FACTOR).add(SUMMAND).mod(TWO_64);
        return x.shiftRight(33).mod(m);
    }

    private static BigInteger sum(List<BigInteger> numbers) {
        BigInteger sum = BigInteger.ZERO;
        for (BigInteger number : numbers) {
            sum = sum.add(number);
        }
        return sum;
    }

    /** -1, if they are LOST. */
    private int by(List<BigInteger> weights) {
        BigInteger sum = sum(weights);
        if (sum.signum() == 0) {
            return -1;
        }
        BigInteger draw = draw(sum);
        int k = 0;
        while (sum(weights.subList(0, k + 1)).compareTo(draw) <= 0) {
            k++;
        }
        return k;
    }

    private void end() {
        rows = null;
        steps = 0;
        anew = 0;
        kept = null;
        origins = null;
        multiplied = 1.0;
    }

    long begin(int n, long seed) {
        if (n < 0) {
            return -1000010;
        }
        if (!(n < 17 && n > 0)) {
            return OUTSIDE;
        }
        end();
        if (sum(start).signum() == 0) {
            return LOST;
        }
        x = BigInteger.valueOf(seed).mod(TWO_64);
        rows = new ArrayList<>();
        for (int k = 0; k < n; k++) {
            Row row = new Row();
            row.state = by(start);
            row.history.add(row.state);
            rows.add(row);
        }
        return n;
    }

    private boolean isRow(int row) {
        return in(row, rows.size());
    }

    private long keptNumber() {
        return kept == null ? NONE : rows.indexOf(kept);
    }

    long keep(int row) {
        if (rows == null) {
            return GONE;
        }
        if (row != NONE && !isRow(row)) {
            return UNKNOWN;
        }
        long was = keptNumber();
        kept = row == NONE ? null : rows.get(row);
        return was;
    }

    long step(int sight, int name) {
        if (rows == null) {
            return GONE;
        }
        if (!in(sight, 5)) {
            return UNKNOWN;
        }
        if (!in(name, 4)) {
            return OUTSIDE;
        }
        for (Row row : rows) {
            if (names.get(row.state) != name) {
                return GONE;
            }
        }
        if (steps == 30) {
            return GONE;
        }
        List<Integer> to = new ArrayList<>();
        for (Row row : rows) {
            int state = by(move.get(row.state));
            if (state < 0) {
                return LOST;
            }
            to.add(state);
        }
        List<BigInteger> weights = new ArrayList<>();
        for (int k = 0; k < rows.size(); k++) {
            weights.add(rows.get(k).weight.multiply(seen.get(sight).get(to.get(k))));
        }
        if (Collections.max(weights).compareTo(BigInteger.valueOf(1000000)) > 0) {
            return MUCH;
        }
        for (int k = 0; k < rows.size(); k++) {
            Row row = rows.get(k);
            row.state = to.get(k);
            row.weight = weights.get(k);
            row.history.add(row.state);
        }
        return ++steps;
    }

    private List<BigInteger> weights() {
        List<BigInteger> weights = new ArrayList<>();
        for (Row row : rows) {
            weights.add(row.weight);
        }
        return weights;
    }

    private BigInteger n() {
        return BigInteger.valueOf(rows.size());
    }

    private BigInteger t() {
        return sum(weights());
    }

    private BigInteger q() {
        BigInteger q = BigInteger.ZERO;
        for (Row row : rows) {
            q = q.add(row.weight.pow(2));
        }
        return q;
    }

    private int firstBy(BigInteger p) {
        int r = 0;
        while (n().multiply(sum(weights().subList(0, r + 1))).compareTo(p) <= 0) {
            r++;
        }
        return r;
    }

    private List<Integer> picks(int way) {
        List<Integer> picked = new ArrayList<>();
        BigInteger t = t();
        if (way == 3) {
            List<BigInteger> rests = new ArrayList<>();
            for (int r = 0; r < rows.size(); r++) {
                BigInteger[] share = n().multiply(rows.get(r).weight).divideAndRemainder(t);
                picked.addAll(Collections.nCopies(share[0].intValue(), r));
                rests.add(share[1]);
            }
            while (picked.size() < rows.size()) {
                picked.add(by(rests));
            }
            Collections.sort(picked);
            if (kept != null && !picked.contains(rows.indexOf(kept))) {
                picked.set(picked.size() - 1, rows.indexOf(kept));
            }
            return picked;
        }
        BigInteger one = way == 2 ? draw(t) : null;
        for (int k = 0; k < rows.size(); k++) {
            if (k == 0 && kept != null) {
                picked.add(rows.indexOf(kept));
            } else if (way == 0) {
                picked.add(by(weights()));
            } else {
                BigInteger u = way == 1 ? draw(t) : one;
                picked.add(firstBy(t.multiply(BigInteger.valueOf(k)).add(u)));
            }
        }
        return picked;
    }

    long again(int way) {
        if (rows == null) {
            return GONE;
        }
        if (!in(way, 4)) {
            return OUTSIDE;
        }
        if (t().signum() == 0) {
            return LOST;
        }
        List<Integer> picked = picks(way);
        Collections.sort(picked);
        multiplied = evidence();
        List<Row> next = new ArrayList<>();
        Row nextKept = null;
        for (int r : picked) {
            Row copy = new Row();
            copy.state = rows.get(r).state;
            copy.history = new ArrayList<>(rows.get(r).history);
            if (rows.get(r) == kept && nextKept == null) {
                nextKept = copy;
            }
            next.add(copy);
        }
        rows = next;
        kept = nextKept;
        origins = picked;
        anew++;
        return new HashSet<>(picked).size();
    }

    long rule(int way, int part) {
        if (rows == null) {
            return GONE;
        }
        if (!in(way, 4) || part < 1 || part > 100) {
            return OUTSIDE;
        }
        if (t().signum() == 0) {
            return LOST;
        }
        BigInteger left = BigInteger.valueOf(100).multiply(t()).multiply(t());
        BigInteger right = BigInteger.valueOf(part).multiply(n()).multiply(q());
        return left.compareTo(right) < 0 ? again(way) : 0;
    }

    long from(int k) {
        return rows == null ? GONE : origins == null || !isRow(k) ? UNKNOWN : origins.get(k);
    }

    long row(int row, int what) {
        if (rows == null) {
            return GONE;
        }
        if (!isRow(row)) {
            return UNKNOWN;
        }
        return what == 0 ? rows.get(row).state : what == 1 ? rows.get(row).history.size() : OUTSIDE;
    }

    long weight(int row) {
        return rows == null ? GONE : !isRow(row) ? UNKNOWN : rows.get(row).weight.longValue();
    }

    long history(int row, int i) {
        if (rows == null) {
            return GONE;
        }
        if (!isRow(row)) {
            return UNKNOWN;
        }
        if (!in(i, rows.get(row).history.size())) {
            throw new ArrayIndexOutOfBoundsException();
        }
        return rows.get(row).history.get(i);
    }

    long write(int row, int i, int state) {
        if (rows == null) {
            return GONE;
        }
        if (!isRow(row) || !in(state, 6)) {
            return UNKNOWN;
        }
        if (!in(i, rows.get(row).history.size())) {
            return OUTSIDE;
        }
        rows.get(row).history.set(i, state);
        return 1;
    }

    long told(int what) {
        if (rows == null) {
            return GONE;
        }
        if (!in(what, 3)) {
            return OUTSIDE;
        }
        if (what == 2 && q().signum() == 0) {
            return 0;
        }
        return (what == 0 ? t() : what == 1 ? q() : t().pow(2).divide(q())).longValueExact();
    }

    double evidence() {
        return rows == null ? 0.0 : multiplied * (t().longValueExact() / (double) rows.size());
    }

    long count(int what) {
        switch (what) {
            case 0: return rows == null ? 0 : rows.size();
            case 1: return steps;
            case 2: return anew;
            case 3: return forced.size();
            case 4: return keptNumber();
            default: return OUTSIDE;
        }
    }

    long clear() {
        long were = rows == null ? 0 : rows.size();
        start = ones();
        move = new ArrayList<>();
        for (int s = 0; s < 6; s++) {
            move.add(ones());
        }
        seen = new ArrayList<>();
        for (int s = 0; s < 5; s++) {
            seen.add(ones());
        }
        names = new ArrayList<>(Collections.nCopies(6, 0));
        forced = new ArrayDeque<>();
        end();
        return were;
    }
}
