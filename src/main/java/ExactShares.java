/**
 * Exact shares in fractions of longs: numbers, rows of values with seats given to them, and odds.
 * What each call answers is told by the document's promises.
 */
public final class ExactShares {
    public static final int BAD = -1, ZERO = -2, GREW = -3, FULL = -4, NONE = -5;
    public static final long NOTHING = Long.MIN_VALUE;

    private static final int MOST_NUMBERS = 40;
    private static final int ROWS = 4;
    private static final int MOST_VALUES = 8;
    private static final long GREATEST_VALUE = 1_000_000;
    private static final int GREATEST_BOUND = 1_000_000;
    private static final int MOST_DIGITS = 15;
    private static final int MOST_SEATS = 2_000;
    private static final int MOST_TRIALS = 60;

    private static final int NO_SUCH_NUMBERS = -2;

    /** -2^63 is wide itself, so it can stand for every wide result. */
    private static final long WIDE = Long.MIN_VALUE;

    /** Divisions with rests on longs end in fewer than a hundred steps. */
    private static final int STEPS = 200;

    private final long[] above = new long[MOST_NUMBERS];
    private final long[] below = new long[MOST_NUMBERS];
    private int numbers;
    private int grown;

    private final long[][] values = new long[ROWS][MOST_VALUES];
    private final int[] sizes = new int[ROWS];

    private final int[] seatsGiven = new int[MOST_VALUES];
    private final long[] remainders = new long[MOST_VALUES];
    private int seatsGivenTo;

    private final long[] things = new long[2 * MOST_VALUES];
    private int waysNotBelow;
    private int waysInAll;
    private int waysWithJustThat;

    public ExactShares() {
    }

    // ---- numbers

    public int value(long u, long v) {
        if (v == 0) {
            return ZERO;
        }
        if (u == WIDE || v == WIDE) {
            return GREW;
        }
        return v < 0 ? keep(-u, -v) : keep(u, v);
    }

    public int act(int op, int a, int b) {
        if (op < 0 || op > 3 || !isNumber(a) || !isNumber(b)) {
            return BAD;
        }
        if (isFull()) {
            return FULL;
        }
        switch (op) {
            case 0:
                return keepSum(above[a], below[a], above[b], below[b]);
            case 1:
                return keepSum(above[a], below[a], -above[b], below[b]);
            case 2:
                return keepProduct(above[a], below[a], above[b], below[b]);
            default:
                return above[b] == 0 ? ZERO : keepQuotient(a, b);
        }
    }

    public int over(int a, int b) throws ArithmeticException {
        if (!isNumber(a) || !isNumber(b)) {
            return BAD;
        }
        if (isFull()) {
            return FULL;
        }
        if (above[b] == 0) {
            throw new ArithmeticException("the number below is 0");
        }
        return keepQuotient(a, b);
    }

    public int drop() {
        if (numbers == 0) {
            return NONE;
        }
        numbers--;
        return numbers;
    }

    public int order(int a, int b) {
        if (!isNumber(a) || !isNumber(b)) {
            return NO_SUCH_NUMBERS;
        }
        return compared(above[a], below[a], above[b], below[b]);
    }

    public long part(int a, int which) {
        if (!isNumber(a) || which < 0 || which > 1) {
            return NOTHING;
        }
        return which == 0 ? above[a] : below[a];
    }

    public int simplest(int a, int b) {
        if (!isNumber(a) || !isNumber(b)) {
            return BAD;
        }
        boolean rising = compared(above[a], below[a], above[b], below[b]) <= 0;
        int low = rising ? a : b;
        int high = rising ? b : a;
        if (above[low] > 0) {
            return keepSimplest(above[low], below[low], above[high], below[high], 1);
        }
        if (above[high] < 0) {
            return keepSimplest(-above[high], below[high], -above[low], below[low], -1);
        }
        return keep(0, 1);
    }

    public int near(int a, int most) {
        if (!isNumber(a) || most < 1 || most > GREATEST_BOUND) {
            return BAD;
        }
        if (below[a] <= most) {
            return keep(above[a], below[a]);
        }
        return keepNearest(above[a], below[a], most);
    }

    public long cut(int a, int digits, boolean up) {
        if (!isNumber(a) || digits < 0 || digits > MOST_DIGITS) {
            return NOTHING;
        }
        long moved = times(above[a], power(10, digits));
        if (moved == WIDE || below[a] < 1) {
            return NOTHING;
        }
        return up ? -Math.floorDiv(-moved, below[a]) : Math.floorDiv(moved, below[a]);
    }

    // ---- rows

    public int into(int row, long v) {
        if (!isRow(row) || v < 0 || v > GREATEST_VALUE) {
            return BAD;
        }
        if (sizes[row] >= MOST_VALUES) {
            return FULL;
        }
        values[row][sizes[row]] = v;
        sizes[row]++;
        return sizes[row];
    }

    public int empty(int row) {
        if (!isRow(row)) {
            return BAD;
        }
        int had = sizes[row];
        sizes[row] = 0;
        return had;
    }

    public long at(int row, int k) {
        return isValue(row, k) ? values[row][k] : -1;
    }

    public int share(int row, int k) throws ArithmeticException {
        if (!isValue(row, k)) {
            return BAD;
        }
        if (isFull()) {
            return FULL;
        }
        long sum = sumOf(row);
        if (sum == 0) {
            throw new ArithmeticException("the sum of the row is 0");
        }
        return keep(values[row][k], sum);
    }

    public int seats(int row, int n, int way) {
        if (!isRow(row) || n < 0 || n > MOST_SEATS || way < 0 || way > 2) {
            return BAD;
        }
        long sum = sumOf(row);
        if (sum == 0) {
            return ZERO;
        }
        seatsGivenTo = sizes[row];
        if (way == 0) {
            giveByRemainders(values[row], n, sum);
        } else {
            giveOneByOne(values[row], n, way);
        }
        return countSeated();
    }

    public int given(int k) {
        return k < 0 || k >= seatsGivenTo ? NONE : seatsGiven[k];
    }

    // ---- odds

    public int tail(int n, int k, int p) {
        if (n < 0 || n > MOST_TRIALS || !isNumber(p)) {
            return BAD;
        }
        if (above[p] < 0 || above[p] > below[p]) {
            return NONE;
        }
        if (isFull()) {
            return FULL;
        }
        long all = power(below[p], n);
        if (all == WIDE) {
            return GREW;
        }
        // No term is wide: all of them together are at most v^n.
        long sum = 0;
        for (int i = Math.max(0, k); i <= n; i++) {
            sum += choose(n, i) * power(above[p], i) * power(below[p] - above[p], n - i);
        }
        return keep(sum, all);
    }

    public int urn(int all, int good, int drawn, int k) {
        if (all < 0 || all > MOST_TRIALS || good < 0 || good > all || drawn < 0 || drawn > all) {
            return BAD;
        }
        // Where it cannot be, one of both is 0; a wrapped drawn - k comes only with a negative k.
        return keep(choose(good, k) * choose(all - good, drawn - k), choose(all, drawn));
    }

    public int test(int a, int b) {
        if (!isRow(a) || !isRow(b) || a == b) {
            return BAD;
        }
        if (sizes[a] == 0 || sizes[b] == 0) {
            return NONE;
        }
        if (isFull()) {
            return FULL;
        }
        System.arraycopy(values[a], 0, things, 0, sizes[a]);
        System.arraycopy(values[b], 0, things, sizes[a], sizes[b]);
        int end = sizes[a] + sizes[b];
        long sum = sumOf(a);
        waysNotBelow = waysToReach(sum, sizes[a], things, 0, end);
        waysWithJustThat = waysNotBelow - waysToReach(sum + 1, sizes[a], things, 0, end);
        waysInAll = (int) choose(end, sizes[a]);
        return keep(waysNotBelow, waysInAll);
    }

    public int ways(int what) {
        if (waysInAll == 0) {
            return NONE;
        }
        switch (what) {
            case 0:
                return waysNotBelow;
            case 1:
                return waysInAll;
            case 2:
                return waysWithJustThat;
            default:
                return BAD;
        }
    }

    public int count(int what) {
        if (what == 0) {
            return numbers;
        }
        if (what == ROWS + 1) {
            return grown;
        }
        return what < 1 || what > ROWS ? BAD : sizes[what - 1];
    }

    // What the calls on numbers stand on.

    private boolean isNumber(int a) {
        return a >= 0 && a < numbers;
    }

    private boolean isFull() {
        return numbers >= MOST_NUMBERS;
    }

    /** Keeps u / v, neither of them wide and v above 0, in lowest terms. */
    private int keep(long u, long v) {
        if (isFull()) {
            return FULL;
        }
        long g = greatestDivisor(u, v);
        above[numbers] = u / g;
        below[numbers] = v / g;
        numbers++;
        return numbers - 1;
    }

    private int keepUnlessWide(long u, long v) {
        if (u == WIDE || v == WIDE) {
            grown++;
            return GREW;
        }
        return keep(u, v);
    }

    private int keepSum(long a, long b, long c, long d) {
        long g = greatestDivisor(b, d);
        long sum = plus(times(a, d / g), times(c, b / g));
        return keepUnlessWide(sum, times(b, d / g));
    }

    private int keepProduct(long a, long b, long c, long d) {
        long g = greatestDivisor(a, d);
        long h = greatestDivisor(c, b);
        return keepUnlessWide(times(a / g, c / h), times(b / h, d / g));
    }

    /** The product with number b turned over, which is not 0. */
    private int keepQuotient(int a, int b) {
        if (above[b] < 0) {
            return keepProduct(above[a], below[a], -below[b], -above[b]);
        }
        return keepProduct(above[a], below[a], below[b], above[b]);
    }

    /**
     * The simplest fraction from a / b to c / d, both above 0 and a / b not above c / d, with a sign.
     * While both ends have the same whole part, the fraction has it too, and what is left of it is
     * the simplest one between what is left of both ends, turned over.
     */
    private int keepSimplest(long a, long b, long c, long d, int sign) {
        long earlierAbove = 0;
        long earlierBelow = 1;
        long lastAbove = 1;
        long lastBelow = 0;
        boolean found = false;
        for (int i = 0; i < STEPS && !found && b > 0 && d > 0; i++) {
            long whole = a / b;
            long lowRest = a % b;
            long highRest = c - whole * d;
            found = lowRest == 0 || highRest >= d;
            long term = lowRest == 0 || !found ? whole : whole + 1;

            long nextAbove = term * lastAbove + earlierAbove;
            long nextBelow = term * lastBelow + earlierBelow;
            earlierAbove = lastAbove;
            earlierBelow = lastBelow;
            lastAbove = nextAbove;
            lastBelow = nextBelow;

            a = d;
            c = b;
            b = highRest;
            d = lowRest;
        }
        return keep(sign * lastAbove, lastBelow);
    }

    /**
     * The fraction nearest to u / v, v being above the bound: one of the two neighbours of u / v
     * among the fractions within the bound. A gap is v times the neighbour's lower part times how
     * far it is from u / v; the fraction between two neighbours takes their parts together.
     */
    private int keepNearest(long u, long v, int most) {
        long whole = v > 0 ? Math.floorDiv(u, v) : 0;
        long lowAbove = whole;
        long lowBelow = 1;
        long lowGap = u - whole * v;
        long highAbove = whole + 1;
        long highBelow = 1;
        long highGap = v - lowGap;
        for (int i = 0; i < STEPS && lowBelow + highBelow <= most && lowGap > 0 && highGap > 0; i++) {
            if (lowGap > highGap) {
                long steps = stepsOf(lowGap, highGap, most - lowBelow, highBelow);
                lowAbove += steps * highAbove;
                lowBelow += steps * highBelow;
                lowGap -= steps * highGap;
            } else {
                long steps = stepsOf(highGap, lowGap, most - highBelow, lowBelow);
                highAbove += steps * lowAbove;
                highBelow += steps * lowBelow;
                highGap -= steps * lowGap;
            }
        }
        // Both sides together are v, so none is wide.
        long lowFar = lowGap * highBelow;
        long highFar = highGap * lowBelow;
        boolean low = lowFar < highFar || lowFar == highFar && lowBelow <= highBelow;
        return low ? keep(lowAbove, lowBelow) : keep(highAbove, highBelow);
    }

    /** How often a neighbour can move to the other one: the gap and the bound both must allow it. */
    private static long stepsOf(long gap, long otherGap, long free, long otherBelow) {
        return otherGap < 1 || otherBelow < 1 ? 0 : Math.min(gap / otherGap, free / otherBelow);
    }

    // What the calls on rows stand on.

    private static boolean isRow(int row) {
        return row >= 0 && row < ROWS;
    }

    private boolean isValue(int row, int k) {
        return isRow(row) && k >= 0 && k < sizes[row];
    }

    private long sumOf(int row) {
        long sum = 0;
        for (int k = 0; k < sizes[row]; k++) {
            sum += values[row][k];
        }
        return sum;
    }

    private void giveByRemainders(long[] row, int n, long sum) {
        if (sum < 1) {
            return;
        }
        int rest = n;
        for (int k = 0; k < seatsGivenTo; k++) {
            seatsGiven[k] = (int) (n * row[k] / sum);
            remainders[k] = n * row[k] % sum;
            rest -= seatsGiven[k];
        }
        for (int i = 0; i < rest; i++) {
            int best = firstGreatestRemainder();
            seatsGiven[best]++;
            remainders[best] = -1;
        }
    }

    private int firstGreatestRemainder() {
        int best = 0;
        for (int k = 1; k < seatsGivenTo; k++) {
            if (remainders[k] > remainders[best]) {
                best = k;
            }
        }
        return best;
    }

    /** The divisor grows by the way: 1, 2, 3, .. by way 1 and 1, 3, 5, .. by way 2. */
    private void giveOneByOne(long[] row, int n, int way) {
        for (int k = 0; k < seatsGivenTo; k++) {
            seatsGiven[k] = 0;
        }
        for (int i = 0; i < n; i++) {
            int best = 0;
            for (int k = 1; k < seatsGivenTo; k++) {
                long divisor = way * seatsGiven[k] + 1;
                long bestDivisor = way * seatsGiven[best] + 1;
                if (row[k] * bestDivisor > row[best] * divisor) {
                    best = k;
                }
            }
            seatsGiven[best]++;
        }
    }

    private int countSeated() {
        int seated = 0;
        for (int k = 0; k < seatsGivenTo; k++) {
            if (seatsGiven[k] > 0) {
                seated++;
            }
        }
        return seated;
    }

    // What the calls on odds stand on.

    /**
     * In how many ways so many of the things from .. end - 1 have a sum that is not below the least.
     * It goes no deeper than there are things.
     */
    private static int waysToReach(long least, int many, long[] things, int from, int end) {
        if (many < 1) {
            return least <= 0 ? 1 : 0;
        }
        if (many > end - from || from >= things.length) {
            return 0;
        }
        return waysToReach(least - things[from], many - 1, things, from + 1, end)
            + waysToReach(least, many, things, from + 1, end);
    }

    /** How many ways there are to choose k of n, which is at most 60: no step of it is wide then. */
    private static long choose(int n, int k) {
        if (k < 0 || k > n) {
            return 0;
        }
        long ways = 1;
        for (int i = 0; i < k; i++) {
            ways = ways * (n - i) / (i + 1);
        }
        return ways;
    }

    // Arithmetic that tells what is wide.

    private static long times(long x, long y) {
        if (x == WIDE || y == WIDE) {
            return WIDE;
        }
        return y != 0 && Math.abs(x) > Long.MAX_VALUE / Math.abs(y) ? WIDE : x * y;
    }

    private static long plus(long x, long y) {
        if (x == WIDE || y == WIDE) {
            return WIDE;
        }
        long sum = x + y;
        boolean wrapped = x > 0 && y > 0 && sum < 0 || x < 0 && y < 0 && sum >= 0;
        return wrapped ? WIDE : sum;
    }

    private static long power(long base, int exponent) {
        long result = 1;
        for (int i = 0; i < exponent; i++) {
            result = times(result, base);
        }
        return result;
    }

    /** At least 1, so that it may always divide. */
    private static long greatestDivisor(long x, long y) {
        long a = Math.abs(x);
        long b = Math.abs(y);
        for (int i = 0; i < STEPS && b != 0; i++) {
            long rest = a % b;
            a = b;
            b = rest;
        }
        return Math.max(1, a);
    }

    /** Whether a / b is below c / d (-1), the same (0) or above (1): by whole parts, no product is needed. */
    private static int compared(long a, long b, long c, long d) {
        int sign = 1;
        for (int i = 0; i < STEPS && b > 0 && d > 0; i++) {
            long whole = Math.floorDiv(a, b);
            long otherWhole = Math.floorDiv(c, d);
            if (whole != otherWhole) {
                return whole < otherWhole ? -sign : sign;
            }
            long rest = a - whole * b;
            long otherRest = c - otherWhole * d;
            if (rest == 0 || otherRest == 0) {
                return rest < otherRest ? -sign : rest > otherRest ? sign : 0;
            }
            // Turned over, the rests stand the other way round.
            a = b;
            b = rest;
            c = d;
            d = otherRest;
            sign = -sign;
        }
        return 0;
    }
}
