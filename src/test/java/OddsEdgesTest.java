import java.util.Arrays;
import java.util.function.Supplier;

/** The boundary cases of trials, urns and tests, promises 17 to 21, a method for each sentence. */
public final class OddsEdgesTest {
    private static final long MAX = Long.MAX_VALUE;
    private static final int MOST = Integer.MAX_VALUE, LEAST = Integer.MIN_VALUE;
    private static final int BAD = ExactShares.BAD, GREW = ExactShares.GREW, NONE = ExactShares.NONE;

    public static void main(String[] args) {
        tailTrials();
        tailNoNumber();
        tailNoOdds();
        tailFromAndTo();
        tailWide();
        urnAll();
        urnGood();
        urnDrawn();
        urnCannotBe();
        testNoRows();
        testOneAlone();
        testEmpty();
        testNotBelow();
        testDifferentThings();
        testLeastAndMost();
        waysNone();
        waysAnotherWhat();
        waysOfTheLatest();
        countAnotherWhat();
        countOfNumbersAndRows();
        countOfGrew();
        countOfGrewInAllCalls();
        Due.end();
    }

    private static void keeps(String sentence, Edge.Call call, long due) {
        Edge.keeps(sentence, Edge::some, call, due);
    }

    private static void makes(String sentence, Edge.Call call, long u, long v) {
        Edge.makes(sentence, Edge::some, call, u, v);
    }

    private static void tailTrials() {
        String sentence = "17: BAD: n is not 0 .. 60: ";
        for (int n : new int[] {LEAST, -60, -1, 61, 62, MOST}) {
            keeps(sentence + n, x -> x.tail(n, 1, Edge.HALF), BAD);
            keeps(sentence + n + ", k 0", x -> x.tail(n, 0, Edge.HALF), BAD);
            keeps(sentence + n + ", k as many", x -> x.tail(n, n, Edge.NOUGHT), BAD);
        }
        makes(sentence + "0", x -> x.tail(0, 0, Edge.HALF), 1, 1);
        makes(sentence + "0, one or more", x -> x.tail(0, 1, Edge.HALF), 0, 1);
        makes(sentence + "1", x -> x.tail(1, 1, Edge.HALF), 1, 2);
        makes(sentence + "59", x -> x.tail(59, 59, Edge.HALF), 1, 1L << 59);
        makes(sentence + "60", x -> x.tail(60, 60, Edge.HALF), 1, 1L << 60);
    }

    private static void tailNoNumber() {
        for (int p : Edge.NEVER) {
            keeps("17: BAD: no NUMBER " + p, x -> x.tail(3, 1, p), BAD);
            keeps("17: BAD: no NUMBER " + p + ", no trials", x -> x.tail(0, 0, p), BAD);
        }
        keeps("17: BAD: no NUMBER, one behind the last", x -> x.tail(3, 1, Edge.NEXT), BAD);
        Edge.keeps("17: BAD: no NUMBERS at all", ExactShares::new, x -> x.tail(3, 1, 0), BAD);
        makes("17: by the first", x -> x.tail(2, 1, 0), 3, 4);
        makes("17: by the last", x -> x.tail(2, 1, Edge.LAST), 51, 100);
    }

    private static Supplier<ExactShares> one(long u, long v) {
        return () -> Due.with(u, v);
    }

    private static void tailNoOdds() {
        String sentence = "17: NONE: p is not from 0 to 1: ";
        for (int n : new int[] {0, 1, 3, 60}) {
            Edge.keeps(sentence + "just below 0, n " + n, one(-1, MAX), x -> x.tail(n, 0, 0), NONE);
            Edge.keeps(sentence + "just above 1, n " + n, one(MAX, MAX - 1), x -> x.tail(n, 0, 0), NONE);
            Edge.keeps(sentence + "-1, n " + n, one(-1, 1), x -> x.tail(n, 0, 0), NONE);
            Edge.keeps(sentence + "2, n " + n, one(2, 1), x -> x.tail(n, 0, 0), NONE);
            Edge.keeps(sentence + "the greatest, n " + n, one(MAX, 1), x -> x.tail(n, n, 0), NONE);
            Edge.keeps(sentence + "the least, n " + n, one(-MAX, 1), x -> x.tail(n, n, 0), NONE);
        }
        Edge.makes(sentence + "0", one(0, 1), x -> x.tail(60, 1, 0), 0, 1);
        Edge.makes(sentence + "0, none or more", one(0, 1), x -> x.tail(60, 0, 0), 1, 1);
        Edge.makes(sentence + "1", one(1, 1), x -> x.tail(60, 60, 0), 1, 1);
        Edge.makes(sentence + "1, more than all", one(1, 1), x -> x.tail(60, 61, 0), 0, 1);
        Edge.makes(sentence + "just above 0", one(1, MAX), x -> x.tail(1, 1, 0), 1, MAX);
        Edge.makes(sentence + "just below 1", one(MAX - 1, MAX), x -> x.tail(1, 1, 0), MAX - 1, MAX);
    }

    private static void tailFromAndTo() {
        String sentence = "17: i from k to n: ";
        makes(sentence + "k is n + 1", x -> x.tail(3, 4, Edge.LAST), 0, 1);
        makes(sentence + "k is the greatest int", x -> x.tail(3, MOST, Edge.LAST), 0, 1);
        makes(sentence + "k is n", x -> x.tail(3, 3, Edge.LAST), 27, 1000);
        makes(sentence + "k is n - 1", x -> x.tail(3, 2, Edge.LAST), 27, 125);
        makes(sentence + "k is 1", x -> x.tail(3, 1, Edge.LAST), 657, 1000);
        makes(sentence + "k is 0", x -> x.tail(3, 0, Edge.LAST), 1, 1);
        String below = "17: from 0 for a k below it: ";
        makes(below + "-1", x -> x.tail(3, -1, Edge.LAST), 1, 1);
        makes(below + "the least int", x -> x.tail(3, LEAST, Edge.LAST), 1, 1);
        makes(below + "of no trials", x -> x.tail(0, -1, Edge.LAST), 1, 1);
        makes(sentence + "the most ways", x -> x.tail(60, 30, Edge.HALF), 79449130385731775L, 1L << 57);
        Edge.makes(sentence + "the most ways, by 0", one(0, 1), x -> x.tail(60, 30, 0), 0, 1);
        Edge.makes(sentence + "the most ways, by 1", one(1, 1), x -> x.tail(60, 30, 0), 1, 1);
    }

    private static void tailWide() {
        String sentence = "17: GREW: v^n is WIDE: ";
        Edge.makes(sentence + "2^60 is not", one(1, 2), x -> x.tail(60, 60, 0), 1, 1L << 60);
        Edge.makes(sentence + "3^39 is not", one(1, 3), x -> x.tail(39, 39, 0), 1, 4052555153018976267L);
        Edge.keeps(sentence + "3^40", one(1, 3), x -> x.tail(40, 40, 0), GREW);
        Edge.makes(sentence + "8^20 is not", one(7, 8), x -> x.tail(20, 0, 0), 1, 1);
        Edge.keeps(sentence + "8^21 is 2^63", one(7, 8), x -> x.tail(21, 0, 0), GREW);
        Edge.makes(sentence + "the greatest square is not", one(1, 3037000499L), x -> x.tail(2, 2, 0), 1,
            9223372030926249001L);
        Edge.keeps(sentence + "the next square", one(1, 3037000500L), x -> x.tail(2, 2, 0), GREW);
        Edge.makes(sentence + "(2^63 - 1)^1 is not", one(1, MAX), x -> x.tail(1, 1, 0), 1, MAX);
        Edge.keeps(sentence + "(2^63 - 1)^2", one(1, MAX), x -> x.tail(2, 2, 0), GREW);
        Edge.makes(sentence + "any^0 is not", one(1, MAX), x -> x.tail(0, 0, 0), 1, 1);
        Edge.makes(sentence + "1^60 is not", one(0, 1), x -> x.tail(60, 0, 0), 1, 1);
        Edge.keeps(sentence + "it wraps to 0 by 2^64", one(1, 16), x -> x.tail(16, 1, 0), GREW);
        Edge.keeps(sentence + "though the odds are 0", one(1, 3), x -> x.tail(40, 41, 0), GREW);
        Edge.keeps(sentence + "though the odds are 1", one(1, 3), x -> x.tail(40, 0, 0), GREW);
        Edge.keeps(sentence + "long before the last trial", one(1, 1000), x -> x.tail(60, 1, 0), GREW);
        Edge.makes("17: the greatest sum", one(2, 3), x -> x.tail(39, 1, 0), 4052555153018976266L,
            4052555153018976267L);
    }

    private static void urnAll() {
        String sentence = "18: BAD: all is not 0 .. 60: ";
        for (int all : new int[] {LEAST, -60, -1, 61, 62, MOST}) {
            keeps(sentence + all, x -> x.urn(all, 0, 0, 0), BAD);
            keeps(sentence + all + ", all good and drawn", x -> x.urn(all, all, all, all), BAD);
        }
        makes(sentence + "0", x -> x.urn(0, 0, 0, 0), 1, 1);
        makes(sentence + "1", x -> x.urn(1, 1, 1, 1), 1, 1);
        makes(sentence + "60", x -> x.urn(60, 30, 30, 0), 1, 118264581564861424L);
        makes(sentence + "60, the middle", x -> x.urn(60, 30, 30, 15), 4655852362800L, 22884013460693L);
        makes(sentence + "60, all good and drawn", x -> x.urn(60, 60, 60, 60), 1, 1);
    }

    private static void urnGood() {
        String sentence = "18: BAD: good not 0 .. all: ";
        for (int good : new int[] {LEAST, -1, 6, 7, 60, MOST}) {
            keeps(sentence + good, x -> x.urn(5, good, 2, 1), BAD);
        }
        keeps(sentence + "1 of none", x -> x.urn(0, 1, 0, 0), BAD);
        keeps(sentence + "61 of 60", x -> x.urn(60, 61, 2, 1), BAD);
        makes(sentence + "0", x -> x.urn(5, 0, 2, 0), 1, 1);
        makes(sentence + "0, one of them", x -> x.urn(5, 0, 2, 1), 0, 1);
        makes(sentence + "all", x -> x.urn(5, 5, 2, 2), 1, 1);
        makes(sentence + "all, less of them", x -> x.urn(5, 5, 2, 1), 0, 1);
    }

    private static void urnDrawn() {
        String sentence = "18: BAD: drawn not 0 .. all: ";
        for (int drawn : new int[] {LEAST, -1, 6, 7, 60, MOST}) {
            keeps(sentence + drawn, x -> x.urn(5, 2, drawn, 1), BAD);
        }
        keeps(sentence + "1 of none", x -> x.urn(0, 0, 1, 0), BAD);
        keeps(sentence + "61 of 60", x -> x.urn(60, 2, 61, 1), BAD);
        makes(sentence + "0", x -> x.urn(5, 2, 0, 0), 1, 1);
        makes(sentence + "0, one of them", x -> x.urn(5, 2, 0, 1), 0, 1);
        makes(sentence + "all", x -> x.urn(5, 2, 5, 2), 1, 1);
        makes(sentence + "all, less of them", x -> x.urn(5, 2, 5, 1), 0, 1);
    }

    private static void urnCannotBe() {
        String sentence = "18: 0 where that cannot be: ";
        makes(sentence + "k is -1", x -> x.urn(10, 4, 5, -1), 0, 1);
        makes(sentence + "k is 0, which can", x -> x.urn(10, 4, 5, 0), 1, 42);
        makes(sentence + "k is good, which can", x -> x.urn(10, 4, 5, 4), 1, 42);
        makes(sentence + "k is good and one", x -> x.urn(10, 4, 5, 5), 0, 1);
        makes(sentence + "k is drawn, which can", x -> x.urn(10, 5, 4, 4), 1, 42);
        makes(sentence + "k is drawn and one", x -> x.urn(10, 5, 4, 5), 0, 1);
        makes(sentence + "as many others as needed, which can", x -> x.urn(10, 8, 4, 2), 2, 15);
        makes(sentence + "one other too few", x -> x.urn(10, 8, 4, 1), 0, 1);
        makes(sentence + "k is the least int", x -> x.urn(10, 4, 5, LEAST), 0, 1);
        makes(sentence + "drawn - k wraps to the least int", x -> x.urn(60, 30, 60, LEAST + 60), 0, 1);
        makes(sentence + "drawn - k is the greatest int", x -> x.urn(60, 30, 60, LEAST + 61), 0, 1);
        makes(sentence + "k is the greatest int", x -> x.urn(10, 4, 5, MOST), 0, 1);
    }

    private static void testNoRows() {
        for (int row : new int[] {LEAST, -1, 4, 5, MOST}) {
            keeps("19: BAD: no ROWS: a is " + row, x -> x.test(row, Edge.TWO), BAD);
            keeps("19: BAD: no ROWS: b is " + row, x -> x.test(Edge.TWO, row), BAD);
            keeps("19: BAD: no ROWS: both are " + row, x -> x.test(row, row), BAD);
        }
        keeps("19: BAD: no ROWS: -1 and 4", x -> x.test(-1, 4), BAD);
        for (int a = 0; a < 4; a++) {
            for (int b = 0; b < 4; b++) {
                ExactShares x = new ExactShares();
                for (int row = 0; row < 4; row++) {
                    x.into(row, 3 * row % 4);
                }
                // The rows hold 0, 3, 2, 1.
                boolean above = (4 - a) % 4 > (4 - b) % 4;
                Due.is("19: rows " + a + " and " + b, x.test(a, b), a == b ? BAD : 0);
                Due.is("19: rows " + a + " and " + b + ", ways", x.ways(0), a == b ? NONE : above ? 1 : 2);
            }
        }
    }

    private static void testOneAlone() {
        for (int row = 0; row < 4; row++) {
            int r = row;
            keeps("19: BAD: one alone: " + r, x -> x.test(r, r), BAD);
        }
    }

    private static void testEmpty() {
        String sentence = "19: NONE: one is empty: ";
        keeps(sentence + "b", x -> x.test(Edge.TWO, Edge.EMPTY), NONE);
        keeps(sentence + "a", x -> x.test(Edge.EMPTY, Edge.TWO), NONE);
        Edge.keeps(sentence + "both", ExactShares::new, x -> x.test(0, 1), NONE);
        Supplier<ExactShares> emptied = () -> {
            ExactShares x = Edge.some();
            x.empty(Edge.THREE);
            return x;
        };
        Edge.keeps(sentence + "emptied", emptied, x -> x.test(Edge.TWO, Edge.THREE), NONE);
        tests(sentence + "each has one", new long[] {0}, new long[] {0}, 2, 2, 2);
        ExactShares x = Edge.some();
        Due.is("19: rows of 0 are not empty", x.test(Edge.NOUGHTS, Edge.TWO), Edge.NEXT);
        Due.number(x, Edge.NEXT, 1, 1);
    }

    /** Tests row 3 against row 1, and looks at the odds, the ways, and that all else is as it was. */
    private static void tests(String sentence, long[] a, long[] b, int notBelow, int all, int just) {
        ExactShares x = Due.with(1, 2);
        Due.row(x, 3, a);
        Due.row(x, 1, b);
        Due.is(sentence, x.test(3, 1), 1);
        Due.is(sentence + ", ways not below", x.ways(0), notBelow);
        Due.is(sentence + ", all ways", x.ways(1), all);
        Due.is(sentence + ", ways with just that sum", x.ways(2), just);
        int g = divisor(notBelow, all);
        Due.number(x, 1, notBelow / g, all / g);
        Due.number(x, 0, 1, 2);
        Due.is(sentence + ", numbers", x.count(0), 2);
        Due.is(sentence + ", given", x.given(0), NONE);
        for (int k = 0; k <= a.length; k++) {
            Due.is(sentence + ", value " + k + " of a", x.at(3, k), k < a.length ? a[k] : -1);
        }
        for (int k = 0; k <= b.length; k++) {
            Due.is(sentence + ", value " + k + " of b", x.at(1, k), k < b.length ? b[k] : -1);
        }
    }

    private static int divisor(int a, int b) {
        return b == 0 ? a : divisor(b, a % b);
    }

    private static void testNotBelow() {
        String sentence = "19: not below";
        tests(sentence + ", the same sum is not", new long[] {4}, new long[] {4}, 2, 2, 2);
        tests(sentence + ", one less is", new long[] {4}, new long[] {3}, 1, 2, 1);
        tests(sentence + ", one more is not", new long[] {4}, new long[] {5}, 2, 2, 1);
        tests(sentence + ", sums of two", new long[] {1, 4}, new long[] {2, 3}, 4, 6, 2);
        tests(sentence + ", the greatest sum", new long[] {3, 4}, new long[] {1, 2}, 1, 6, 1);
        tests(sentence + ", the least sum", new long[] {1, 2}, new long[] {3, 4}, 6, 6, 1);
    }

    private static void testDifferentThings() {
        String sentence = "19: as different things";
        tests(sentence + ", all alike", new long[] {7, 7}, new long[] {7, 7, 7}, 10, 10, 10);
        tests(sentence + ", alike within a", new long[] {5, 5}, new long[] {1}, 1, 3, 1);
        tests(sentence + ", alike within b", new long[] {5}, new long[] {5, 5, 1}, 3, 4, 3);
        tests(sentence + ", alike of both", new long[] {2, 1}, new long[] {2, 0}, 3, 6, 2);
    }

    private static void testLeastAndMost() {
        String sentence = "19: least and most";
        long[] noughts = new long[8];
        long[] great = new long[8];
        Arrays.fill(great, 1000000);
        tests(sentence + ", all of 0", noughts, noughts, 12870, 12870, 12870);
        tests(sentence + ", all the greatest", great, great, 12870, 12870, 12870);
        tests(sentence + ", greatest against 0", great, noughts, 1, 12870, 1);
        tests(sentence + ", 0 against greatest", noughts, great, 12870, 12870, 1);
        tests(sentence + ", one against eight", new long[] {9}, new long[] {1, 2, 3, 4, 5, 6, 7, 8}, 1, 9, 1);
        tests(sentence + ", eight against one", new long[] {1, 2, 3, 4, 5, 6, 7, 8}, new long[] {9}, 9, 9, 1);
        tests(sentence + ", eight and seven", great, new long[7], 1, 6435, 1);
        tests(sentence + ", powers of two", new long[] {1, 2, 4, 8, 16, 32, 64, 128},
            new long[] {256, 512, 1024, 2048, 4096, 8192, 16384, 32768}, 12870, 12870, 1);
        tests(sentence + ", powers of two, turned", new long[] {256, 512, 1024, 2048, 4096, 8192, 16384, 32768},
            new long[] {1, 2, 4, 8, 16, 32, 64, 128}, 1, 12870, 1);
    }

    private static void waysNone() {
        String sentence = "20: NONE: there was none: ";
        for (int what : new int[] {0, 1, 2}) {
            Edge.keeps(sentence + what, ExactShares::new, x -> x.ways(what), NONE);
        }
        Supplier<ExactShares> refused = () -> {
            ExactShares x = new ExactShares();
            Due.row(x, 0, 1, 2);
            Due.row(x, 1, 3);
            x.test(0, 0);
            x.test(0, 4);
            x.test(0, 2);
            Due.fill(x);
            x.test(0, 1);
            return x;
        };
        Edge.keeps(sentence + "all were refused", refused, x -> x.ways(0), NONE);
        Edge.keeps(sentence + "all were refused, all ways", refused, x -> x.ways(1), NONE);
    }

    private static void waysAnotherWhat() {
        for (int what : new int[] {LEAST, -1, 3, 4, MOST}) {
            keeps("20: BAD: another what: " + what, x -> x.ways(what), BAD);
        }
        keeps("20: 0", x -> x.ways(0), 3);
        keeps("20: 1", x -> x.ways(1), 10);
        keeps("20: 2", x -> x.ways(2), 2);
    }

    private static void waysOfTheLatest() {
        String sentence = "20: of the latest test() that was not refused: ";
        ExactShares x = Edge.some();
        x.test(Edge.THREE, Edge.TWO);
        Due.is(sentence + "the second", x.ways(0), 9);
        Due.is(sentence + "the second, all", x.ways(1), 10);
        Due.is(sentence + "the second, just that", x.ways(2), 2);
        x.test(Edge.TWO, Edge.NOUGHTS);
        Due.is(sentence + "the third", x.ways(0), 1);
        Due.is(sentence + "the third, all", x.ways(1), 6);
        Due.is(sentence + "the third, just that", x.ways(2), 1);
        x.test(Edge.TWO, Edge.TWO);
        x.test(Edge.TWO, Edge.EMPTY);
        x.test(4, Edge.TWO);
        Due.fill(x);
        x.test(Edge.TWO, Edge.THREE);
        Due.is(sentence + "later ones were refused", x.ways(0), 1);
        Due.is(sentence + "later ones were refused, all", x.ways(1), 6);
        Due.is(sentence + "later ones were refused, just that", x.ways(2), 1);
        x.empty(Edge.TWO);
        x.drop();
        Due.is(sentence + "the row is empty now", x.ways(1), 6);
    }

    private static void countAnotherWhat() {
        for (int what : new int[] {LEAST, -1, 6, 7, MOST}) {
            keeps("21: BAD: " + what, x -> x.count(what), BAD);
            Edge.keeps("21: BAD: of a new object, " + what, ExactShares::new, x -> x.count(what), BAD);
        }
        keeps("21: 0", x -> x.count(0), 7);
        keeps("21: 5", x -> x.count(5), 1);
    }

    private static void countOfNumbersAndRows() {
        Edge.keeps("21: 40 NUMBERS", Edge::full, x -> x.count(0), 40);
        Edge.keeps("21: 39 NUMBERS", Edge::nearlyFull, x -> x.count(0), 39);
        ExactShares x = new ExactShares();
        for (int row = 0; row < 4; row++) {
            for (int k = 0; k < 2 * row + 2; k++) {
                x.into(row, k);
            }
        }
        for (int row = 0; row < 4; row++) {
            Due.is("21: VALUES of ROW " + row, x.count(row + 1), 2 * row + 2);
        }
        x.into(3, 1);
        Due.is("21: VALUES of a full ROW", x.count(4), 8);
        x.empty(3);
        Due.is("21: VALUES of a ROW that was emptied", x.count(4), 0);
    }

    private static void countOfGrew() {
        ExactShares x = Due.with(MAX, 1, 1, 2, 1, MAX, -1, 1);
        int due = 0;
        Due.is("21: 5: none", x.count(5), due);
        x.act(0, 0, 0);
        Due.is("21: 5: by act(0)", x.count(5), ++due);
        x.act(1, 0, 3);
        Due.is("21: 5: by act(1)", x.count(5), ++due);
        x.act(2, 0, 0);
        Due.is("21: 5: by act(2)", x.count(5), ++due);
        x.act(3, 0, 1);
        Due.is("21: 5: by act(3)", x.count(5), ++due);
        x.over(0, 2);
        Due.is("21: 5: by over()", x.count(5), ++due);
        x.value(Long.MIN_VALUE, 1);
        Due.is("21: 5: not by value()", x.count(5), due);
        x.tail(2, 1, 2);
        Due.is("21: 5: not by tail()", x.count(5), due);
        x.cut(0, 15, true);
        Due.is("21: 5: not by cut()", x.count(5), due);
        Due.fill(x);
        x.act(0, 0, 0);
        x.over(0, 2);
        Due.is("21: 5: not when FULL was answered", x.count(5), due);
        x.drop();
        Due.is("21: 5: what is dropped does not take it back", x.count(5), due);
        x.over(0, 2);
        Due.is("21: 5: once more", x.count(5), due + 1);
        Due.is("21: 5: of another object", new ExactShares().count(5), 0);
    }

    /** An object is used for at most 512 calls: one makes the number, the last one counts. */
    private static void countOfGrewInAllCalls() {
        ExactShares x = Due.with(MAX, 1);
        for (int call = 2; call < 512; call++) {
            Due.is("3: GREW of call " + call, call % 2 == 0 ? x.act(2, 0, 0) : x.act(0, 0, 0), GREW);
        }
        Due.is("21: 5: as often as can be", x.count(5), 510);
    }
}
