import java.util.function.Supplier;

/** The boundary cases of promises 1 to 10, a method for each sentence; WideTest and FullTest have GREW and FULL. */
public final class NumbersEdgesTest {
    private static final long MAX = Long.MAX_VALUE, MIN = Long.MIN_VALUE;
    private static final int MOST = Integer.MAX_VALUE, LEAST = Integer.MIN_VALUE;
    private static final int BAD = ExactShares.BAD, ZERO = ExactShares.ZERO, GREW = ExactShares.GREW;
    private static final int NONE = ExactShares.NONE;
    private static final long NOTHING = ExactShares.NOTHING;

    public static void main(String[] args) {
        newHasNoNumbers();
        newHasEmptyRows();
        valueOverNought();
        valueOfTheLeastLong();
        valueInLowestTerms();
        actAnotherOp();
        actNoNumbers();
        actByNought();
        overNoNumbers();
        overNought();
        dropOfNone();
        orderNoNumbers();
        orderAtTheEdge();
        partNoNumber();
        partAnotherWhich();
        simplestNoNumbers();
        simplestAtTheEnds();
        simplestNearestToNought();
        nearNoNumber();
        nearBound();
        nearLowerPart();
        nearTies();
        cutNoNumber();
        cutDigits();
        cutWide();
        cutAtWholeOnes();
        Due.end();
    }

    private static void keeps(String sentence, Edge.Call call, long due) {
        Edge.keeps(sentence, Edge::some, call, due);
    }

    private static void makes(String sentence, Edge.Call call, long u, long v) {
        Edge.makes(sentence, Edge::some, call, u, v);
    }

    private static Supplier<ExactShares> one(long u, long v) {
        return () -> Due.with(u, v);
    }

    private interface OnIndex {
        long on(ExactShares x, int a);
    }

    /** Every kind of index that is no number: never one, not yet one, and one no more. */
    private static void noNumber(String sentence, OnIndex call, long due) {
        for (int a : Edge.NEVER) {
            keeps(sentence + ", " + a, x -> call.on(x, a), due);
        }
        keeps(sentence + ", one behind the last", x -> call.on(x, Edge.NEXT), due);
        keeps(sentence + ", the greatest index there can be", x -> call.on(x, 39), due);
        Supplier<ExactShares> dropped = () -> {
            ExactShares x = Edge.some();
            x.drop();
            return x;
        };
        Edge.keeps(sentence + ", dropped", dropped, x -> call.on(x, Edge.LAST), due);
        Edge.keeps(sentence + ", of no numbers at all", ExactShares::new, x -> call.on(x, 0), due);
    }

    private static void newHasNoNumbers() {
        String sentence = "1: no NUMBERS: ";
        Supplier<ExactShares> object = ExactShares::new;
        Edge.keeps(sentence + "count(0)", object, x -> x.count(0), 0);
        Edge.keeps(sentence + "count(5)", object, x -> x.count(5), 0);
        Edge.keeps(sentence + "drop", object, x -> x.drop(), NONE);
        Edge.keeps(sentence + "order", object, x -> x.order(0, 0), -2);
        Edge.makes(sentence + "the first is number 0", object, x -> x.value(5, 7), 5, 7);
        Edge.makes(sentence + "an urn needs none", object, x -> x.urn(2, 1, 1, 1), 1, 2);
        ExactShares other = Edge.full();
        Due.is(sentence + "whatever another object has, " + other.count(0), new ExactShares().count(0), 0);
    }

    private static void newHasEmptyRows() {
        String sentence = "1: empty ROWS: ";
        Supplier<ExactShares> object = ExactShares::new;
        for (int row = 0; row < 4; row++) {
            int r = row;
            Edge.keeps(sentence + "count of " + r, object, x -> x.count(r + 1), 0);
            Edge.keeps(sentence + "at of " + r, object, x -> x.at(r, 0), -1);
            Edge.keeps(sentence + "empty of " + r, object, x -> x.empty(r), 0);
            Edge.keeps(sentence + "share of " + r, object, x -> x.share(r, 0), BAD);
            Edge.keeps(sentence + "seats of " + r, object, x -> x.seats(r, 1, 0), ZERO);
            Edge.keeps(sentence + "test of " + r, object, x -> x.test(r, (r + 1) % 4), NONE);
        }
        Edge.keeps(sentence + "given", object, x -> x.given(0), NONE);
        Edge.keeps(sentence + "ways", object, x -> x.ways(0), NONE);
    }

    private static void valueOverNought() {
        String sentence = "2: ZERO: v is 0: ";
        for (long u : new long[] {MIN, -MAX, -1, 0, 1, MAX}) {
            keeps(sentence + u, x -> x.value(u, 0), ZERO);
        }
        makes(sentence + "v is 1", x -> x.value(3, 1), 3, 1);
        makes(sentence + "v is -1", x -> x.value(3, -1), -3, 1);
        makes(sentence + "u alone is 0", x -> x.value(0, 1), 0, 1);
    }

    private static void valueOfTheLeastLong() {
        String sentence = "2: GREW: one of both is -2^63: ";
        keeps(sentence + "u", x -> x.value(MIN, 1), GREW);
        makes(sentence + "u is one more", x -> x.value(-MAX, 1), -MAX, 1);
        makes(sentence + "u is the greatest", x -> x.value(MAX, 1), MAX, 1);
        keeps(sentence + "v", x -> x.value(1, MIN), GREW);
        makes(sentence + "v is one more", x -> x.value(1, -MAX), -1, MAX);
        makes(sentence + "v is the greatest", x -> x.value(1, MAX), 1, MAX);
        keeps(sentence + "both", x -> x.value(MIN, MIN), GREW);
        makes(sentence + "both are one more", x -> x.value(-MAX, -MAX), 1, 1);
        keeps(sentence + "u, though lower terms would not be", x -> x.value(MIN, 2), GREW);
        keeps(sentence + "v, though lower terms would not be", x -> x.value(2, MIN), GREW);
        keeps(sentence + "v, though it is 0", x -> x.value(0, MIN), GREW);
        keeps(sentence + "u, v below 0", x -> x.value(MIN, -1), GREW);
        keeps(sentence + "v, u below 0", x -> x.value(-1, MIN), GREW);
    }

    private static void valueInLowestTerms() {
        String sentence = "terms: in lowest terms, v above 0: ";
        makes(sentence + "v below 0", x -> x.value(6, -4), -3, 2);
        makes(sentence + "both below 0", x -> x.value(-6, -4), 3, 2);
        makes(sentence + "u below 0", x -> x.value(-6, 4), -3, 2);
        makes(sentence + "0", x -> x.value(0, MAX), 0, 1);
        makes(sentence + "0, v below 0", x -> x.value(0, -MAX), 0, 1);
        makes(sentence + "one of both", x -> x.value(MAX, -MAX), -1, 1);
        makes(sentence + "nothing in common", x -> x.value(MAX - 1, MAX), MAX - 1, MAX);
        makes(sentence + "u is a divisor", x -> x.value(7, MAX), 1, MAX / 7);
        makes(sentence + "v is a divisor", x -> x.value(-MAX, 7), -(MAX / 7), 1);
        makes(sentence + "most steps", x -> x.value(7540113804746346429L, -4660046610375530309L),
            -7540113804746346429L, 4660046610375530309L);
    }

    private static void actAnotherOp() {
        String sentence = "3: BAD: another op: ";
        for (int op : new int[] {LEAST, -1, 4, 5, MOST}) {
            keeps(sentence + op, x -> x.act(op, Edge.HALF, Edge.MINUS), BAD);
        }
        makes(sentence + "0 is none", x -> x.act(0, Edge.HALF, Edge.MINUS), -1, 4);
        makes(sentence + "3 is none", x -> x.act(3, Edge.HALF, Edge.MINUS), -2, 3);
    }

    private static void actNoNumbers() {
        for (int op = 0; op <= 3; op++) {
            int o = op;
            String sentence = "3: BAD: no NUMBERS, op " + op + ": ";
            noNumber(sentence + "a", (x, a) -> x.act(o, a, Edge.HALF), BAD);
            noNumber(sentence + "b", (x, b) -> x.act(o, Edge.HALF, b), BAD);
            noNumber(sentence + "both", (x, a) -> x.act(o, a, a), BAD);
        }
        makes("3: the first number and the last", x -> x.act(0, 0, Edge.LAST), 4, 5);
        makes("3: the last number and the first", x -> x.act(1, Edge.LAST, 0), -1, 5);
        makes("3: a number with itself", x -> x.act(2, Edge.LAST, Edge.LAST), 9, 100);
    }

    private static void actByNought() {
        String sentence = "3: ZERO: b is 0, of 3: ";
        keeps(sentence + "1/2", x -> x.act(3, Edge.HALF, Edge.NOUGHT), ZERO);
        keeps(sentence + "0", x -> x.act(3, Edge.NOUGHT, Edge.NOUGHT), ZERO);
        keeps(sentence + "the greatest", x -> x.act(3, Edge.GREATEST, Edge.NOUGHT), ZERO);
        keeps(sentence + "the least above 0", x -> x.act(3, Edge.LEAST, Edge.NOUGHT), ZERO);
        keeps(sentence + "one below 0", x -> x.act(3, Edge.MINUS, Edge.NOUGHT), ZERO);
        makes(sentence + "a is 0", x -> x.act(3, Edge.NOUGHT, Edge.LEAST), 0, 1);
        makes(sentence + "not of 0", x -> x.act(0, Edge.HALF, Edge.NOUGHT), 1, 2);
        makes(sentence + "not of 1", x -> x.act(1, Edge.HALF, Edge.NOUGHT), 1, 2);
        makes(sentence + "not of 2", x -> x.act(2, Edge.HALF, Edge.NOUGHT), 0, 1);
        Supplier<ExactShares> tiny = () -> Due.with(1, MAX, -1, MAX);
        Edge.makes(sentence + "b is the least above 0", tiny, x -> x.act(3, 0, 0), 1, 1);
        Edge.makes(sentence + "b is the greatest below 0", tiny, x -> x.act(3, 0, 1), -1, 1);
    }

    private static void overNoNumbers() {
        noNumber("4: BAD: a", (x, a) -> x.over(a, Edge.HALF), BAD);
        noNumber("4: BAD: b", (x, b) -> x.over(Edge.HALF, b), BAD);
        noNumber("4: BAD: both", (x, a) -> x.over(a, a), BAD);
        makes("4: the first number over the last", x -> x.over(0, Edge.LAST), 5, 3);
        makes("4: the last number over the first", x -> x.over(Edge.LAST, 0), 3, 5);
    }

    private static void overNought() {
        String sentence = "4: ArithmeticException: b is 0: ";
        keeps(sentence + "1/2", x -> x.over(Edge.HALF, Edge.NOUGHT), Edge.THROWN);
        keeps(sentence + "0", x -> x.over(Edge.NOUGHT, Edge.NOUGHT), Edge.THROWN);
        keeps(sentence + "the greatest", x -> x.over(Edge.GREATEST, Edge.NOUGHT), Edge.THROWN);
        keeps(sentence + "the least above 0", x -> x.over(Edge.LEAST, Edge.NOUGHT), Edge.THROWN);
        keeps(sentence + "one below 0", x -> x.over(Edge.MINUS, Edge.NOUGHT), Edge.THROWN);
        makes(sentence + "a is 0", x -> x.over(Edge.NOUGHT, Edge.LEAST), 0, 1);
        Supplier<ExactShares> tiny = () -> Due.with(1, MAX, -1, MAX);
        Edge.makes(sentence + "b is the least above 0", tiny, x -> x.over(0, 0), 1, 1);
        Edge.makes(sentence + "b is the greatest below 0", tiny, x -> x.over(0, 1), -1, 1);
        Edge.grew("4: GREW", Edge::some, x -> x.over(Edge.GREATEST, Edge.HALF));
    }

    private static void dropOfNone() {
        String sentence = "5: NONE: there is none: ";
        Edge.keeps(sentence + "never was", ExactShares::new, x -> x.drop(), NONE);
        Supplier<ExactShares> emptied = () -> {
            ExactShares x = Due.with(1, 2);
            x.into(2, 5);
            x.drop();
            return x;
        };
        Edge.keeps(sentence + "no more", emptied, x -> x.drop(), NONE);
        ExactShares x = Due.with(1, 2);
        Due.is("5: the only one goes", x.drop(), 0);
        Due.is(sentence + "first", x.drop(), NONE);
        Due.is(sentence + "again", x.drop(), NONE);
        Due.is("5: refused drops are not owed", x.value(3, 4), 0);
        ExactShares y = Edge.some();
        Due.is("5: the last goes", y.drop(), Edge.LAST);
        Due.is("5: it is gone", y.part(Edge.LAST, 0), NOTHING);
        Due.number(y, Edge.ABOVE_ONE, 3, 2);
        Due.is("5: the ways of its test stay", y.ways(1), 10);
        Due.is("5: its number is given again", y.value(9, 7), Edge.LAST);
        Due.number(y, Edge.LAST, 9, 7);
        Due.is("5: of 40", Edge.full().drop(), 39);
    }

    private static void orderNoNumbers() {
        noNumber("6: -2: a", (x, a) -> x.order(a, Edge.HALF), -2);
        noNumber("6: -2: b", (x, b) -> x.order(Edge.HALF, b), -2);
        noNumber("6: -2: both", (x, a) -> x.order(a, a), -2);
        keeps("6: the first and the last", x -> x.order(0, Edge.LAST), 1);
        keeps("6: the last and the first", x -> x.order(Edge.LAST, 0), -1);
    }

    private static void order(String what, long a, long b, long c, long d, int due) {
        Supplier<ExactShares> object = () -> Due.with(a, b, c, d);
        Edge.keeps("6: " + what, object, x -> x.order(0, 1), due);
        Edge.keeps("6: turned, " + what, object, x -> x.order(1, 0), -due);
        Supplier<ExactShares> mirrored = () -> Due.with(-a, b, -c, d);
        Edge.keeps("6: mirrored, " + what, mirrored, x -> x.order(0, 1), -due);
    }

    private static void orderAtTheEdge() {
        order("the same", MAX, 2, MAX, 2, 0);
        order("the same from other terms", 2, 4, 3, 6, 0);
        order("0 and 0", 0, 5, 0, -7, 0);
        order("0 and the least above it", 0, 1, 1, MAX, -1);
        order("the least above 0 and the greatest below it", 1, MAX, -1, MAX, 1);
        order("the greatest and one less", MAX, 1, MAX - 1, 1, 1);
        order("the greatest and the least", MAX, 1, -MAX, 1, 1);
        order("the greatest and a half of it", MAX, 1, MAX, 2, 1);
        order("products that would wrap", MAX - 1, MAX, MAX - 2, MAX - 1, 1);
        order("products that are alike but for 1", MAX, MAX - 1, MAX - 1, MAX - 2, -1);
        order("most steps", 7540113804746346429L, 4660046610375530309L, 4660046610375530309L,
            2880067194370816120L, -1);
        order("whole parts alike, no rest", 2, 1, 5, 2, -1);
    }

    private static void partNoNumber() {
        noNumber("7: NOTHING: no such NUMBER, u", (x, a) -> x.part(a, 0), NOTHING);
        noNumber("7: NOTHING: no such NUMBER, v", (x, a) -> x.part(a, 1), NOTHING);
        keeps("7: u of the first", x -> x.part(0, 0), 1);
        keeps("7: v of the first", x -> x.part(0, 1), 2);
        keeps("7: u of the last", x -> x.part(Edge.LAST, 0), 3);
        keeps("7: v of the last", x -> x.part(Edge.LAST, 1), 10);
        Edge.keeps("7: the least u", one(-MAX, 1), x -> x.part(0, 0), -MAX);
        Edge.keeps("7: the greatest v", one(1, MAX), x -> x.part(0, 1), MAX);
    }

    private static void partAnotherWhich() {
        for (int which : new int[] {LEAST, -1, 2, 3, MOST}) {
            keeps("7: NOTHING: another which: " + which, x -> x.part(Edge.HALF, which), NOTHING);
        }
    }

    private static void simplestNoNumbers() {
        noNumber("8: BAD: a", (x, a) -> x.simplest(a, Edge.HALF), BAD);
        noNumber("8: BAD: b", (x, b) -> x.simplest(Edge.HALF, b), BAD);
        noNumber("8: BAD: both", (x, a) -> x.simplest(a, a), BAD);
        makes("8: the first and the last", x -> x.simplest(0, Edge.LAST), 1, 2);
        makes("8: the last and the first", x -> x.simplest(Edge.LAST, 0), 1, 2);
    }

    /** Both ways round, and mirrored at 0. */
    private static void simplest(String what, long a, long b, long c, long d, long u, long v) {
        Supplier<ExactShares> object = () -> Due.with(a, b, c, d);
        Supplier<ExactShares> mirrored = () -> Due.with(-a, b, -c, d);
        Edge.makes("8: " + what, object, x -> x.simplest(0, 1), u, v);
        Edge.makes("8: turned, " + what, object, x -> x.simplest(1, 0), u, v);
        Edge.makes("8: mirrored, " + what, mirrored, x -> x.simplest(0, 1), -u, v);
        Edge.makes("8: mirrored and turned, " + what, mirrored, x -> x.simplest(1, 0), -u, v);
    }

    private static void simplestAtTheEnds() {
        simplest("a and b are the same", 22, 7, 22, 7, 22, 7);
        simplest("a is it", 1, 2, 2, 3, 1, 2);
        simplest("b is it", 2, 5, 1, 2, 1, 2);
        simplest("between them", 2, 5, 4, 7, 1, 2);
        simplest("just not 1/2, below", 1, 3, MAX / 2, MAX, 1, 3);
        simplest("just not 1/2, above", MAX / 2 + 1, MAX, 2, 3, 2, 3);
        simplest("a whole end below", 3, 1, 7, 2, 3, 1);
        simplest("a whole end above", 5, 2, 3, 1, 3, 1);
        simplest("just above a whole one", 13, 6, 8, 3, 5, 2);
        simplest("no room for another", MAX - 1, MAX, MAX - 2, MAX - 1, MAX - 2, MAX - 1);
        simplest("no room for another at 0", 1, MAX, 1, MAX - 1, 1, MAX - 1);
        simplest("most steps", 7540113804746346429L, 4660046610375530309L, 4660046610375530309L,
            2880067194370816120L, 4660046610375530309L, 2880067194370816120L);
        simplest("the greatest alone", MAX, 1, MAX, 1, MAX, 1);
    }

    private static void simplestNearestToNought() {
        String of = "of several the one nearest to 0: ";
        simplest(of + "0 between", -1, MAX, MAX, 1, 0, 1);
        simplest(of + "0 is an end", 0, 1, MAX, 1, 0, 1);
        simplest(of + "0 is both", 0, 1, 0, 1, 0, 1);
        simplest(of + "the least above 0 and far", 1, MAX, MAX, 1, 1, 1);
        simplest(of + "whole ones", 3, 2, 9, 2, 2, 1);
        simplest(of + "whole ends", 2, 1, 5, 1, 2, 1);
        simplest(of + "just two whole ones", MAX - 1, 1, MAX, 1, MAX - 1, 1);
    }

    private static void nearNoNumber() {
        noNumber("9: BAD: no NUMBER, bound 1", (x, a) -> x.near(a, 1), BAD);
        noNumber("9: BAD: no NUMBER, bound 1,000,000", (x, a) -> x.near(a, 1000000), BAD);
        makes("9: of the first", x -> x.near(0, 2), 1, 2);
        makes("9: of the last", x -> x.near(Edge.LAST, 10), 3, 10);
    }

    private static void nearBound() {
        String sentence = "9: BAD: the bound is not 1 .. 1,000,000: ";
        for (int most : new int[] {LEAST, -1000000, -1, 0, 1000001, MOST}) {
            keeps(sentence + most, x -> x.near(Edge.LAST, most), BAD);
            keeps(sentence + most + ", of a whole one", x -> x.near(Edge.NOUGHT, most), BAD);
        }
        makes(sentence + "1", x -> x.near(Edge.LAST, 1), 0, 1);
        makes(sentence + "2", x -> x.near(Edge.LAST, 2), 1, 2);
        makes(sentence + "1,000,000", x -> x.near(Edge.LAST, 1000000), 3, 10);
        makes(sentence + "999,999", x -> x.near(Edge.LAST, 999999), 3, 10);
    }

    private static void near(String what, long u, long v, int most, long above, long below) {
        Edge.makes("9: " + what, one(u, v), x -> x.near(0, most), above, below);
    }

    private static void nearLowerPart() {
        near("a lower part that is the bound", 7, 10, 10, 7, 10);
        near("a lower part that is one above it", 7, 10, 9, 5, 7);
        near("mirrored, the bound", -7, 10, 10, -7, 10);
        near("mirrored, one above it", -7, 10, 9, -5, 7);
        near("a lower part of 1,000,000", 1, 1000000, 1000000, 1, 1000000);
        near("a lower part of 1,000,001", 1, 1000001, 1000000, 1, 1000000);
        near("mirrored, 1,000,001", -1, 1000001, 1000000, -1, 1000000);
        near("a lower part of 1,000,001, nearly 1", 1000000, 1000001, 1000000, 999999, 1000000);
        near("the least above 0", 1, MAX, 1000000, 0, 1);
        near("the greatest below 0", -1, MAX, 1000000, 0, 1);
        near("nearly 1", MAX - 1, MAX, 1000000, 1, 1);
        near("the greatest with bound 1", MAX, 1, 1, MAX, 1);
        near("the least with bound 1", -MAX, 1, 1, -MAX, 1);
        near("great, two thirds to a half", MAX - 2, 3, 2, (MAX - 2) / 3 * 2 + 1, 2);
        near("great, two thirds to a half, below 0", 2 - MAX, 3, 2, -((MAX - 2) / 3 * 2) - 1, 2);
        near("great, 1,000,001", MAX, 1000001, 1000000, 4674953675646536019L, 506860);
        near("great, 1,000,001, below 0", -MAX, 1000001, 1000000, -4674953675646536019L, 506860);
    }

    private static void nearTies() {
        String lesser = "of two as near the lesser lower part: ";
        near(lesser + "below", 1, 4, 2, 0, 1);
        near(lesser + "above", 3, 4, 2, 1, 1);
        near(lesser + "below 0, above", -1, 4, 2, 0, 1);
        near(lesser + "below 0, below", -3, 4, 2, -1, 1);
        near(lesser + "1/2 or 1/3", 5, 12, 3, 1, 2);
        near(lesser + "1/2 or 2/3", 7, 12, 3, 1, 2);
        near(lesser + "0 or 1/1,000,000", 1, 2000000, 1000000, 0, 1);
        near(lesser + "just below the middle", 1, 2000001, 1000000, 0, 1);
        near(lesser + "just above the middle", 1, 1999999, 1000000, 1, 1000000);
        String least = "of these the lesser one: ";
        near(least + "0 or 1", 1, 2, 1, 0, 1);
        near(least + "-1 or 0", -1, 2, 1, -1, 1);
        near(least + "great", MAX, 2, 1, MAX / 2, 1);
        near(least + "great, below 0", -MAX, 2, 1, -(MAX / 2) - 1, 1);
    }

    private static void cutNoNumber() {
        noNumber("10: NOTHING: no such NUMBER, down", (x, a) -> x.cut(a, 0, false), NOTHING);
        noNumber("10: NOTHING: no such NUMBER, up", (x, a) -> x.cut(a, 15, true), NOTHING);
        keeps("10: of the first", x -> x.cut(0, 1, false), 5);
        keeps("10: of the last", x -> x.cut(Edge.LAST, 1, true), 3);
    }

    private static void cutDigits() {
        String sentence = "10: NOTHING: digits are not 0 .. 15: ";
        for (int digits : new int[] {LEAST, -1, 16, 17, 64, MOST}) {
            keeps(sentence + digits, x -> x.cut(Edge.HALF, digits, false), NOTHING);
            keeps(sentence + digits + " up", x -> x.cut(Edge.HALF, digits, true), NOTHING);
            keeps(sentence + digits + " of 0", x -> x.cut(Edge.NOUGHT, digits, false), NOTHING);
        }
        keeps(sentence + "0", x -> x.cut(Edge.HALF, 0, false), 0);
        keeps(sentence + "0 up", x -> x.cut(Edge.HALF, 0, true), 1);
        keeps(sentence + "15", x -> x.cut(Edge.HALF, 15, false), 500000000000000L);
        keeps(sentence + "15 up", x -> x.cut(Edge.LEAST, 15, true), 1);
        keeps(sentence + "15 down", x -> x.cut(Edge.LEAST, 15, false), 0);
    }

    /** Of u / v and of -u / v, the greatest whole number not above and the least not below. */
    private static void cut(String what, long u, long v, int digits, long down, long up) {
        String sentence = "10: " + what + ": ";
        Edge.keeps(sentence + "down", one(u, v), x -> x.cut(0, digits, false), down);
        Edge.keeps(sentence + "up", one(u, v), x -> x.cut(0, digits, true), up);
        boolean nothing = down == NOTHING;
        Edge.keeps(sentence + "below 0, down", one(-u, v), x -> x.cut(0, digits, false), nothing ? NOTHING : -up);
        Edge.keeps(sentence + "below 0, up", one(-u, v), x -> x.cut(0, digits, true), nothing ? NOTHING : -down);
    }

    private static void cutWide() {
        cut("u times 1 is the greatest", MAX, 1, 0, MAX, MAX);
        cut("u times 1 is the greatest, over 2", MAX, 2, 0, MAX / 2, MAX / 2 + 1);
        cut("u times 10 is not wide", 922337203685477580L, 1, 1, MAX - 7, MAX - 7);
        cut("u times 10 is wide", 922337203685477581L, 1, 1, NOTHING, NOTHING);
        cut("u times 10 is wide, over more", 922337203685477581L, 1000000007L, 1, NOTHING, NOTHING);
        cut("u times 10^15 is not wide", 9223, 7, 15, 1317571428571428571L, 1317571428571428572L);
        cut("u times 10^15 is wide", 9224, 7, 15, NOTHING, NOTHING);
        cut("u times 10^14 is not wide", 92233, 7, 14, 1317614285714285714L, 1317614285714285715L);
        cut("u times 10^14 is wide", 92234, 7, 14, NOTHING, NOTHING);
        cut("the greatest times 10", MAX, 1, 1, NOTHING, NOTHING);
        cut("the greatest times 10^15", MAX, 1, 15, NOTHING, NOTHING);
        cut("the greatest times 10, over nearly as much", MAX, MAX - 1, 1, NOTHING, NOTHING);
    }

    private static void cutAtWholeOnes() {
        cut("a whole one", 5, 1, 0, 5, 5);
        cut("a whole one by digits", 1, 8, 3, 125, 125);
        cut("just not a whole one by digits", 1, 8, 2, 12, 13);
        cut("just above a whole one", MAX, MAX - 1, 0, 1, 2);
        cut("just below a whole one", MAX - 1, MAX, 0, 0, 1);
        cut("the least above 0", 1, MAX, 0, 0, 1);
        cut("0", 0, 1, 15, 0, 0);
    }
}
