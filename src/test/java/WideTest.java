import java.util.function.Supplier;

/**
 * The terms: WIDE. For each number that a sum, a difference, a product or a quotient meets on the way: the last
 * that is taken and the first that is refused, above and below 0.
 */
public final class WideTest {
    private static final long MAX = Long.MAX_VALUE;
    /** 2^63 - 1 is 73 times this, and this is no multiple of 73. */
    private static final long PART = MAX / 73;
    /** 2^63 + 1 is 27 times this, and this is no multiple of 3: no lower part of a sum can be 2^63. */
    private static final long BEYOND = 341606371735362067L;
    private static final long P60 = 1L << 60, P61 = 1L << 61, P62 = 1L << 62;

    public static void main(String[] args) {
        Due.is("73 times its part", 73 * PART, MAX);
        Due.is("27 times the other is 2^63 + 1", 27 * BEYOND, Long.MIN_VALUE + 1);
        sumFirst();
        sumSecond();
        sumTogether();
        sumBelow();
        sumByDivisor();
        productAbove();
        productBelow();
        productByDivisors();
        quotientAbove();
        quotientBelow();
        quotientSign();
        quotientByDivisors();
        Due.end();
    }

    private static Supplier<ExactShares> two(long a, long b, long c, long d) {
        return () -> Due.with(a, b, c, d);
    }

    private static void sum(String what, long a, long b, long c, long d, long u, long v) {
        Edge.makes("SUM: " + what, two(a, b, c, d), x -> x.act(0, 0, 1), u, v);
        Edge.makes("DIFFERENCE: " + what, two(a, b, -c, d), x -> x.act(1, 0, 1), u, v);
    }

    private static void sumGrew(String what, long a, long b, long c, long d) {
        Edge.grew("SUM: " + what, two(a, b, c, d), x -> x.act(0, 0, 1));
        Edge.grew("DIFFERENCE: " + what, two(a, b, -c, d), x -> x.act(1, 0, 1));
    }

    private static void sumFirst() {
        sum("a times (d / g) is 2^63 - 1", PART, 1, -1, 73, MAX - 1, 73);
        sumGrew("a times (d / g) is 2^63", P60, 1, -1, 8);
        sum("a times (d / g) is -(2^63 - 1)", -PART, 1, 1, 73, 1 - MAX, 73);
        sumGrew("a times (d / g) is -2^63", -P60, 1, 1, 8);
        sumGrew("a times (d / g) is far beyond", MAX, 1, -1, MAX);
    }

    private static void sumSecond() {
        sum("c times (b / g) is 2^63 - 1", -1, 73, PART, 1, MAX - 1, 73);
        sumGrew("c times (b / g) is 2^63", -1, 8, P60, 1);
        sum("c times (b / g) is -(2^63 - 1)", 1, 73, -PART, 1, 1 - MAX, 73);
        sumGrew("c times (b / g) is -2^63", 1, 8, -P60, 1);
        sumGrew("c times (b / g) is far beyond", -1, MAX, MAX, 1);
        sumGrew("both products are wide", P62, 3, -P62, 5);
    }

    private static void sumTogether() {
        sum("both together are 2^63 - 1", MAX - 1, 1, 1, 1, MAX, 1);
        sumGrew("both together are 2^63", MAX, 1, 1, 1);
        sumGrew("both together are 2^63, in halves", P62, 1, P62, 1);
        sum("both together are -(2^63 - 1)", 1 - MAX, 1, -1, 1, -MAX, 1);
        sumGrew("both together are -2^63", -MAX, 1, -1, 1);
        sumGrew("both together are -2^63, in halves", -P62, 1, -P62, 1);
        sumGrew("both together are wide though lower terms are not", MAX, 2, 1, 2);
        sumGrew("both together are wide though lower terms are not, below 0", -MAX, 2, -1, 2);
        sumGrew("both together wrap to -2", MAX, 1, MAX, 1);
        sumGrew("both together wrap to 2", -MAX, 1, -MAX, 1);
        sum("both together are 0", MAX, 1, -MAX, 1, 0, 1);
        sum("0 and the greatest", 0, 1, MAX, 1, MAX, 1);
        sum("0 and the least", 0, 1, -MAX, 1, -MAX, 1);
    }

    private static void sumBelow() {
        sum("b times (d / g) is 2^63 - 1", 1, 73, 1, PART, PART + 73, MAX);
        sum("b times (d / g) is 2^63 - 1, turned", 1, PART, 1, 73, PART + 73, MAX);
        sumGrew("b times (d / g) is 2^63 + 1", 1, 27, 1, BEYOND);
        sumGrew("b times (d / g) is 2^63 + 1, turned", 1, BEYOND, 1, 27);
        sumGrew("b times (d / g) is 2^63 + 1, below 0", -1, 27, -1, BEYOND);
        sumGrew("b times (d / g) wraps to a small one", 1, P62, 1, P62 - 1);
        sum("0 and the least lower part", 0, 1, 1, MAX, 1, MAX);
    }

    private static void sumByDivisor() {
        sum("g is b and d", 1, P62, 1, P62, 1, P61);
        sum("g is b", 1, 8, 1, P62, (1L << 59) + 1, P62);
        sum("g is d", 1, P62, 1, 8, (1L << 59) + 1, P62);
        sum("g is b and d, greatest", 1, MAX, MAX - 1, MAX, 1, 1);
        sumGrew("g is b and d, one more", 2, MAX, MAX - 1, MAX);
        sum("g is 2", 1, P61, 1, 6, P60 + 3, 3 * P61);
        sumGrew("g is 2, and that is too little", 1, P61, 1, 10);
    }

    private static void product(String what, long a, long b, long c, long d, long u, long v) {
        Edge.makes("PRODUCT: " + what, two(a, b, c, d), x -> x.act(2, 0, 1), u, v);
        Edge.makes("PRODUCT, turned: " + what, two(c, d, a, b), x -> x.act(2, 0, 1), u, v);
    }

    private static void productGrew(String what, long a, long b, long c, long d) {
        Edge.grew("PRODUCT: " + what, two(a, b, c, d), x -> x.act(2, 0, 1));
        Edge.grew("PRODUCT, turned: " + what, two(c, d, a, b), x -> x.act(2, 0, 1));
    }

    private static void productAbove() {
        product("above times above is 2^63 - 1", 73, 1, PART, 1, MAX, 1);
        product("above times above is 2^63 - 1, of two below 0", -73, 1, -PART, 1, MAX, 1);
        productGrew("above times above is 2^63", 2, 1, P62, 1);
        productGrew("above times above is 2^63, of two below 0", -2, 1, -P62, 1);
        product("above times above is -(2^63 - 1)", -73, 1, PART, 1, -MAX, 1);
        productGrew("above times above is -2^63", -2, 1, P62, 1);
        productGrew("above times above wraps to 0", 1L << 32, 1, 1L << 32, 1);
        productGrew("above times above is wide, below is not", P62, 3, 2, 5);
    }

    private static void productBelow() {
        product("below times below is 2^63 - 1", 1, 73, 1, PART, 1, MAX);
        product("below times below is 2^63 - 1, below 0", -1, 73, 1, PART, -1, MAX);
        productGrew("below times below is 2^63", 1, 2, 1, P62);
        productGrew("below times below is 2^63, below 0", -1, 2, 1, P62);
        productGrew("below times below wraps to 0", 1, 1L << 32, 1, 1L << 32);
        productGrew("below times below is wide, above is not", 3, P62, 5, 2);
    }

    private static void productByDivisors() {
        product("both divisors take all", MAX, 2, 2, MAX, 1, 1);
        product("the divisor of a and d", P62, 1, 1, P62, 1, 1);
        product("the divisor of a and d, below 0", -P62, 1, 1, P61, -2, 1);
        product("just enough of a divisor", P62, 1, 5, 4, 5 * P60, 1);
        productGrew("too little of a divisor", P62, 1, 5, 2);
        product("0 takes all of the other's lower part", 0, 1, 1, MAX, 0, 1);
        product("0 and the greatest", 0, 1, MAX, 1, 0, 1);
        product("0 and 0", 0, 1, 0, 1, 0, 1);
    }

    private static void quotient(String what, long a, long b, long c, long d, long u, long v) {
        Edge.makes("QUOTIENT: " + what, two(a, b, c, d), x -> x.act(3, 0, 1), u, v);
        Edge.makes("QUOTIENT by over: " + what, two(a, b, c, d), x -> x.over(0, 1), u, v);
    }

    private static void quotientGrew(String what, long a, long b, long c, long d) {
        Edge.grew("QUOTIENT: " + what, two(a, b, c, d), x -> x.act(3, 0, 1));
        Edge.grew("QUOTIENT by over: " + what, two(a, b, c, d), x -> x.over(0, 1));
    }

    private static void quotientAbove() {
        quotient("above is 2^63 - 1", PART, 1, 1, 73, MAX, 1);
        quotient("above is 2^63 - 1, of two below 0", -PART, 1, -1, 73, MAX, 1);
        quotientGrew("above is 2^63", P62, 1, 1, 2);
        quotientGrew("above is 2^63, of two below 0", -P62, 1, -1, 2);
        quotient("above is -(2^63 - 1)", -PART, 1, 1, 73, -MAX, 1);
        quotient("above is -(2^63 - 1), by one below 0", PART, 1, -1, 73, -MAX, 1);
        quotientGrew("above is -2^63", -P62, 1, 1, 2);
        quotientGrew("above is -2^63, by one below 0", P62, 1, -1, 2);
    }

    private static void quotientBelow() {
        quotient("below is 2^63 - 1", 1, PART, 73, 1, 1, MAX);
        quotient("below is 2^63 - 1, by one below 0", 1, PART, -73, 1, -1, MAX);
        quotientGrew("below is 2^63", 1, P62, 2, 1);
        quotientGrew("below is 2^63, by one below 0", 1, P62, -2, 1);
        quotientGrew("below is 2^63, turned", 1, 2, P62, 1);
        quotientGrew("below is 2^63, turned, by one below 0", 1, 2, -P62, 1);
    }

    private static void quotientSign() {
        quotient("the sign goes above", 1, 1, -MAX, 1, -1, MAX);
        quotient("the sign goes above, of one below 0", -1, 1, MAX, 1, -1, MAX);
        quotient("no sign of two below 0", -1, 1, -MAX, 1, 1, MAX);
        quotient("0 has no sign", 0, 1, -MAX, 1, 0, 1);
        quotient("0 by the least", 0, 1, -1, MAX, 0, 1);
    }

    private static void quotientByDivisors() {
        quotient("by itself", MAX, 2, MAX, 2, 1, 1);
        quotient("by itself, below 0", -1, MAX, -1, MAX, 1, 1);
        quotient("by itself with another sign", 1, MAX, -1, MAX, -1, 1);
        quotient("just enough of a divisor", P62, 1, 4, 5, 5 * P60, 1);
        quotientGrew("too little of a divisor", P62, 1, 2, 5);
    }
}
