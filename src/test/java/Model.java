import java.math.BigInteger;
import java.util.ArrayList;
import java.util.List;

/**
 * The document's words in BigInteger, by trying out what the class works out: slow, and written
 * apart from it. A call that throws an ArithmeticException answers THROWN here.
 */
final class Model {
    static final long THROWN = 777_777_777_777L;
    static final long NOTHING = Long.MIN_VALUE;
    static final int BAD = -1, ZERO = -2, GREW = -3, FULL = -4, NONE = -5;

    private static final BigInteger MAX = BigInteger.valueOf(Long.MAX_VALUE);

    /** A fraction in lowest terms. */
    record Fraction(BigInteger above, BigInteger below) implements Comparable<Fraction> {
        static Fraction of(BigInteger u, BigInteger v) {
            BigInteger g = u.gcd(v).multiply(BigInteger.valueOf(v.signum()));
            return new Fraction(u.divide(g), v.divide(g));
        }

        @Override
        public int compareTo(Fraction other) {
            return above.multiply(other.below).compareTo(other.above.multiply(below));
        }

        Fraction distance(Fraction other) {
            BigInteger u = above.multiply(other.below).subtract(other.above.multiply(below));
            return of(u.abs(), below.multiply(other.below));
        }

        BigInteger timesCut(BigInteger factor, boolean up) {
            BigInteger[] parts = above.multiply(factor).divideAndRemainder(below);
            int rest = parts[1].signum();
            return rest > 0 && up || rest < 0 && !up ? parts[0].add(big(rest)) : parts[0];
        }
    }

    final List<Fraction> numbers = new ArrayList<>();
    final List<List<Long>> rows = List.of(new ArrayList<>(), new ArrayList<>(), new ArrayList<>(), new ArrayList<>());
    private int[] seats = null;
    private int[] ways = null;
    private int grew = 0;

    static BigInteger big(long x) {
        return BigInteger.valueOf(x);
    }

    static boolean wide(BigInteger x) {
        return x.abs().compareTo(MAX) > 0;
    }

    private boolean none(int a) {
        return a < 0 || a >= numbers.size();
    }

    private boolean full() {
        return numbers.size() == 40;
    }

    private int add(Fraction f) {
        if (wide(f.above) || wide(f.below) || f.below.signum() <= 0) {
            throw new IllegalStateException("the model would keep a wide number: " + f);
        }
        numbers.add(f);
        return numbers.size() - 1;
    }

    long value(long u, long v) {
        if (v == 0) {
            return ZERO;
        }
        if (wide(big(u)) || wide(big(v))) {
            return GREW;
        }
        return full() ? FULL : add(Fraction.of(big(u), big(v)));
    }

    long act(int op, int a, int b) {
        if (op < 0 || op > 3 || none(a) || none(b)) {
            return BAD;
        }
        if (full()) {
            return FULL;
        }
        if (op == 3 && numbers.get(b).above.signum() == 0) {
            return ZERO;
        }
        return acted(op, numbers.get(a), numbers.get(b));
    }

    private long acted(int op, Fraction x, Fraction y) {
        BigInteger a = x.above, b = x.below, c = y.above, d = y.below;
        if (op == 1) {
            c = c.negate();
        }
        if (op == 3) {
            BigInteger sign = big(c.signum());
            BigInteger turned = d.multiply(sign);
            d = c.multiply(sign);
            c = turned;
        }
        List<BigInteger> met;
        if (op < 2) {
            BigInteger g = b.gcd(d);
            BigInteger first = a.multiply(d.divide(g)), second = c.multiply(b.divide(g));
            met = List.of(first, second, first.add(second), b.multiply(d.divide(g)));
        } else {
            BigInteger g = a.gcd(d), h = c.gcd(b);
            met = List.of(a.divide(g).multiply(c.divide(h)), b.divide(h).multiply(d.divide(g)));
        }
        for (BigInteger m : met) {
            if (wide(m)) {
                grew++;
                return GREW;
            }
        }
        return add(Fraction.of(met.get(met.size() - 2), met.get(met.size() - 1)));
    }

    long over(int a, int b) {
        if (none(a) || none(b)) {
            return BAD;
        }
        if (full()) {
            return FULL;
        }
        return numbers.get(b).above.signum() == 0 ? THROWN : acted(3, numbers.get(a), numbers.get(b));
    }

    long drop() {
        if (numbers.isEmpty()) {
            return NONE;
        }
        numbers.remove(numbers.size() - 1);
        return numbers.size();
    }

    long order(int a, int b) {
        return none(a) || none(b) ? -2 : numbers.get(a).compareTo(numbers.get(b));
    }

    long part(int a, int which) {
        if (none(a) || which < 0 || which > 1) {
            return NOTHING;
        }
        return (which == 0 ? numbers.get(a).above : numbers.get(a).below).longValueExact();
    }

    long simplest(int a, int b) {
        if (none(a) || none(b)) {
            return BAD;
        }
        if (full()) {
            return FULL;
        }
        Fraction x = numbers.get(a), y = numbers.get(b);
        return add(x.compareTo(y) <= 0 ? simplestOf(x, y) : simplestOf(y, x));
    }

    /** Lower parts are tried one by one as far as that is quick, then by the tree of all fractions. */
    private static Fraction simplestOf(Fraction low, Fraction high) {
        for (int q = 1; q <= 300; q++) {
            BigInteger least = low.timesCut(big(q), true), most = high.timesCut(big(q), false);
            if (least.compareTo(most) <= 0) {
                BigInteger p = least.signum() > 0 ? least : most.signum() < 0 ? most : BigInteger.ZERO;
                return new Fraction(p, big(q));
            }
        }
        return inTree(low, high);
    }

    /** Between two whole numbers, none of them within: walks down from 0/1 and 1/1 by doubling steps. */
    private static Fraction inTree(Fraction low, Fraction high) {
        BigInteger whole = low.timesCut(BigInteger.ONE, false);
        Fraction left = new Fraction(whole, BigInteger.ONE);
        Fraction right = new Fraction(whole.add(BigInteger.ONE), BigInteger.ONE);
        while (true) {
            Fraction middle = stepped(left, right, BigInteger.ONE);
            if (middle.compareTo(low) >= 0 && middle.compareTo(high) <= 0) {
                return middle;
            }
            boolean goRight = middle.compareTo(low) < 0;
            Fraction from = goRight ? left : right, to = goRight ? right : left;
            BigInteger steps = BigInteger.ONE, size = BigInteger.ONE;
            while (size.signum() > 0) {
                Fraction next = stepped(from, to, steps.add(size));
                boolean outside = goRight ? next.compareTo(low) < 0 : next.compareTo(high) > 0;
                if (outside) {
                    steps = steps.add(size);
                    size = size.shiftLeft(1);
                } else {
                    size = size.shiftRight(1);
                }
            }
            Fraction moved = stepped(from, to, steps);
            left = goRight ? moved : left;
            right = goRight ? right : moved;
        }
    }

    private static Fraction stepped(Fraction from, Fraction to, BigInteger steps) {
        return new Fraction(from.above.add(to.above.multiply(steps)), from.below.add(to.below.multiply(steps)));
    }

    /** Every lower part within the bound is tried; a gap is how far it is, times both lower parts. */
    long near(int a, int most) {
        if (none(a) || most < 1 || most > 1_000_000) {
            return BAD;
        }
        if (full()) {
            return FULL;
        }
        Fraction x = numbers.get(a);
        long v = x.below.longValueExact(), step = x.above.mod(x.below).longValueExact();
        long gapBelow = 0, bestGap = v, best = 1;
        boolean bestUp = false;
        for (int q = 1; q <= most; q++) {
            gapBelow = gapBelow >= v - step ? gapBelow - (v - step) : gapBelow + step;
            boolean up = v - gapBelow < gapBelow;
            long gap = up ? v - gapBelow : gapBelow;
            if (productIsLess(gap, best, bestGap, q)) {
                bestGap = gap;
                best = q;
                bestUp = up;
            }
        }
        return add(Fraction.of(x.timesCut(big(best), bestUp), big(best)));
    }

    /** Whether a b is less than c d, none of them below 0, in 128 bits. */
    private static boolean productIsLess(long a, long b, long c, long d) {
        long high = Math.multiplyHigh(a, b), otherHigh = Math.multiplyHigh(c, d);
        return high < otherHigh || high == otherHigh && Long.compareUnsigned(a * b, c * d) < 0;
    }

    long cut(int a, int digits, boolean up) {
        if (none(a) || digits < 0 || digits > 15 || wide(numbers.get(a).above.multiply(BigInteger.TEN.pow(digits)))) {
            return NOTHING;
        }
        return numbers.get(a).timesCut(BigInteger.TEN.pow(digits), up).longValueExact();
    }

    private static boolean noRow(int row) {
        return row < 0 || row > 3;
    }

    private long sum(int row) {
        return rows.get(row).stream().mapToLong(Long::longValue).sum();
    }

    long into(int row, long v) {
        if (noRow(row) || v < 0 || v > 1_000_000) {
            return BAD;
        }
        if (rows.get(row).size() == 8) {
            return FULL;
        }
        rows.get(row).add(v);
        return rows.get(row).size();
    }

    long empty(int row) {
        if (noRow(row)) {
            return BAD;
        }
        int had = rows.get(row).size();
        rows.get(row).clear();
        return had;
    }

    long at(int row, int k) {
        return noRow(row) || k < 0 || k >= rows.get(row).size() ? -1 : rows.get(row).get(k);
    }

    long share(int row, int k) {
        if (at(row, k) < 0) {
            return BAD;
        }
        if (full()) {
            return FULL;
        }
        return sum(row) == 0 ? THROWN : add(Fraction.of(big(at(row, k)), big(sum(row))));
    }

    long seats(int row, int n, int way) {
        if (noRow(row) || n < 0 || n > 2000 || way < 0 || way > 2) {
            return BAD;
        }
        if (sum(row) == 0) {
            return ZERO;
        }
        List<Long> values = rows.get(row);
        seats = new int[values.size()];
        Fraction[] claims = new Fraction[values.size()];
        int left = n;
        if (way == 0) {
            for (int k = 0; k < seats.length; k++) {
                Fraction due = Fraction.of(big(n * values.get(k)), big(sum(row)));
                seats[k] = due.timesCut(BigInteger.ONE, false).intValueExact();
                claims[k] = due.distance(new Fraction(big(seats[k]), BigInteger.ONE));
                left -= seats[k];
            }
        }
        for (int i = 0; i < left; i++) {
            for (int k = 0; k < seats.length && way > 0; k++) {
                claims[k] = Fraction.of(big(values.get(k)), big(way == 1 ? seats[k] + 1 : 2 * seats[k] + 1));
            }
            int best = first(claims);
            seats[best]++;
            claims[best] = new Fraction(big(-1), BigInteger.ONE);
        }
        int got = 0;
        for (int s : seats) {
            got += s > 0 ? 1 : 0;
        }
        return got;
    }

    private static int first(Fraction[] claims) {
        int best = 0;
        for (int k = 0; k < claims.length; k++) {
            best = claims[k].compareTo(claims[best]) > 0 ? k : best;
        }
        return best;
    }

    long given(int k) {
        return seats == null || k < 0 || k >= seats.length ? NONE : seats[k];
    }

    static BigInteger choose(int n, int k) {
        if (k < 0 || k > n) {
            return BigInteger.ZERO;
        }
        BigInteger above = BigInteger.ONE, below = BigInteger.ONE;
        for (int i = 1; i <= k; i++) {
            above = above.multiply(big(n - k + i));
            below = below.multiply(big(i));
        }
        return above.divide(below);
    }

    long tail(int n, int k, int p) {
        if (n < 0 || n > 60 || none(p)) {
            return BAD;
        }
        BigInteger u = numbers.get(p).above, v = numbers.get(p).below;
        if (u.signum() < 0 || u.compareTo(v) > 0) {
            return NONE;
        }
        if (full()) {
            return FULL;
        }
        if (wide(v.pow(n))) {
            return GREW;
        }
        BigInteger sum = BigInteger.ZERO;
        for (int i = 0; i <= n; i++) {
            if (i >= k) {
                sum = sum.add(choose(n, i).multiply(u.pow(i)).multiply(v.subtract(u).pow(n - i)));
            }
        }
        return add(Fraction.of(sum, v.pow(n)));
    }

    long urn(int all, int good, int drawn, int k) {
        if (all < 0 || all > 60 || good < 0 || good > all || drawn < 0 || drawn > all) {
            return BAD;
        }
        if (full()) {
            return FULL;
        }
        if (k < 0 || k > good || k > drawn || drawn - k > all - good) {
            return add(new Fraction(BigInteger.ZERO, BigInteger.ONE));
        }
        return add(Fraction.of(choose(good, k).multiply(choose(all - good, drawn - k)), choose(all, drawn)));
    }

    long test(int a, int b) {
        if (noRow(a) || noRow(b) || a == b) {
            return BAD;
        }
        if (rows.get(a).isEmpty() || rows.get(b).isEmpty()) {
            return NONE;
        }
        if (full()) {
            return FULL;
        }
        List<Long> both = new ArrayList<>(rows.get(a));
        both.addAll(rows.get(b));
        ways = new int[3];
        for (int mask = 0; mask < 1 << both.size(); mask++) {
            if (Integer.bitCount(mask) == rows.get(a).size()) {
                long sum = 0;
                for (int k = 0; k < both.size(); k++) {
                    sum += (mask >> k & 1) * both.get(k);
                }
                ways[0] += sum >= sum(a) ? 1 : 0;
                ways[1]++;
                ways[2] += sum == sum(a) ? 1 : 0;
            }
        }
        return add(Fraction.of(big(ways[0]), big(ways[1])));
    }

    long ways(int what) {
        if (ways == null) {
            return NONE;
        }
        return what < 0 || what > 2 ? BAD : ways[what];
    }

    long count(int what) {
        if (what < 0 || what > 5) {
            return BAD;
        }
        return what == 0 ? numbers.size() : what == 5 ? grew : rows.get(what - 1).size();
    }
}
