/** Promises 17 to 21. */
public final class OddsTest {
    private static final long MAX = Long.MAX_VALUE;
    private static final int BAD = ExactShares.BAD, GREW = ExactShares.GREW;
    private static final int FULL = ExactShares.FULL, NONE = ExactShares.NONE;

    public static void main(String[] args) {
        tail();
        tailEdges();
        tailRefusals();
        urn();
        urnRefusals();
        test();
        testRefusals();
        ways();
        count();
        Due.end();
    }

    private static void tail() {
        ExactShares x = Due.with(1, 2, 1, 3, 2, 3);
        Due.made("10 5 1/2", x, x.tail(10, 5, 0), 319, 512);
        Due.made("10 0 1/2", x, x.tail(10, 0, 0), 1, 1);
        Due.made("10 -3 1/2", x, x.tail(10, -3, 0), 1, 1);
        Due.made("10 least 1/2", x, x.tail(10, Integer.MIN_VALUE, 0), 1, 1);
        Due.made("10 10 1/2", x, x.tail(10, 10, 0), 1, 1024);
        Due.made("10 11 1/2", x, x.tail(10, 11, 0), 0, 1);
        Due.made("10 most 1/2", x, x.tail(10, Integer.MAX_VALUE, 0), 0, 1);
        Due.made("2 1 1/3", x, x.tail(2, 1, 1), 5, 9);
        Due.made("2 1 2/3", x, x.tail(2, 1, 2), 8, 9);
        Due.made("3 2 2/3", x, x.tail(3, 2, 2), 20, 27);
        Due.made("60 60 1/2", x, x.tail(60, 60, 0), 1, 1L << 60);
        Due.made("60 1 1/2", x, x.tail(60, 1, 0), (1L << 60) - 1, 1L << 60);
        // half of all and half of the middle: (2^60 + C(60, 30)) / 2^61
        Due.made("60 30 1/2", x, x.tail(60, 30, 0), 79449130385731775L, 144115188075855872L);
        Due.made("39 39 1/3", x, x.tail(39, 39, 1), 1, 4052555153018976267L);
        Due.is("3^40 is wide", x.tail(40, 1, 1), GREW);
        Due.is("wide though none can be", x.tail(40, 41, 1), GREW);
        Due.is("GREW of tail() is not counted", x.count(5), 0);
    }

    private static void tailEdges() {
        ExactShares x = Due.with(0, 1, 1, 1, 1, MAX, MAX - 1, MAX, 1, 3037000499L, 1, 3037000500L, 1, 8);
        Due.made("never, 0", x, x.tail(5, 0, 0), 1, 1);
        Due.made("never, 1", x, x.tail(5, 1, 0), 0, 1);
        Due.made("always, all", x, x.tail(60, 60, 1), 1, 1);
        Due.made("always, more", x, x.tail(60, 61, 1), 0, 1);
        Due.made("no trials, 0", x, x.tail(0, 0, 2), 1, 1);
        Due.made("no trials, 1", x, x.tail(0, 1, 2), 0, 1);
        Due.made("one trial", x, x.tail(1, 1, 2), 1, MAX);
        Due.made("one trial, nearly 1", x, x.tail(1, 1, 3), MAX - 1, MAX);
        Due.is("two trials", x.tail(2, 1, 2), GREW);
        Due.made("the greatest square", x, x.tail(2, 2, 4), 1, 3037000499L * 3037000499L);
        Due.is("the next square", x.tail(2, 2, 5), GREW);
        Due.made("8^20", x, x.tail(20, 20, 6), 1, 1L << 60);
        Due.is("8^21 is 2^63", x.tail(21, 21, 6), GREW);
        Due.is("wide long before the last trial", x.tail(60, 1, 6), GREW);
    }

    private static void tailRefusals() {
        ExactShares x = Due.with(1, 2, 3, 2, -1, 2, 1, MAX);
        Due.is("n 61", x.tail(61, 1, 0), BAD);
        Due.is("n -1", x.tail(-1, 1, 0), BAD);
        Due.is("no number", x.tail(3, 1, 4), BAD);
        Due.is("no number -1", x.tail(3, 1, -1), BAD);
        Due.is("above 1", x.tail(3, 1, 1), NONE);
        Due.is("below 0", x.tail(3, 1, 2), NONE);
        Due.is("above 1, no trials", x.tail(0, 0, 1), NONE);
        Due.is("BAD before NONE", x.tail(61, 1, 1), BAD);
        Due.is("none made", x.count(0), 4);
        Due.fill(x);
        Due.is("FULL", x.tail(3, 1, 0), FULL);
        Due.is("NONE before FULL", x.tail(3, 1, 1), NONE);
        Due.is("FULL before GREW", x.tail(3, 1, 3), FULL);
        Due.is("BAD before FULL", x.tail(3, 1, 40), BAD);
    }

    private static void urn() {
        ExactShares x = new ExactShares();
        Due.made("52 4 5 2", x, x.urn(52, 4, 5, 2), 2162, 54145);
        Due.made("nothing drawn of nothing", x, x.urn(0, 0, 0, 0), 1, 1);
        Due.made("nothing, 1", x, x.urn(0, 0, 0, 1), 0, 1);
        Due.made("all drawn", x, x.urn(10, 3, 10, 3), 1, 1);
        Due.made("all drawn, 2", x, x.urn(10, 3, 10, 2), 0, 1);
        Due.made("more than good", x, x.urn(10, 3, 4, 4), 0, 1);
        Due.made("more than drawn", x, x.urn(10, 4, 3, 4), 0, 1);
        Due.made("too few others", x, x.urn(10, 8, 4, 1), 0, 1);
        Due.made("just enough others", x, x.urn(10, 8, 4, 2), 2, 15);
        Due.made("k -1", x, x.urn(10, 3, 4, -1), 0, 1);
        Due.made("k least", x, x.urn(10, 3, 4, Integer.MIN_VALUE), 0, 1);
        Due.made("k -2^31 + 2, drawn - k wraps", x, x.urn(60, 30, 60, Integer.MIN_VALUE + 2), 0, 1);
        Due.made("k most", x, x.urn(10, 3, 4, Integer.MAX_VALUE), 0, 1);
        Due.made("greatest", x, x.urn(60, 30, 30, 0), 1, 118264581564861424L);
        Due.made("middle", x, x.urn(60, 30, 30, 15), 4655852362800L, 22884013460693L);
        Due.made("none good", x, x.urn(60, 0, 60, 0), 1, 1);
    }

    private static void urnRefusals() {
        ExactShares x = new ExactShares();
        Due.is("all 61", x.urn(61, 1, 1, 1), BAD);
        Due.is("all -1", x.urn(-1, 0, 0, 0), BAD);
        Due.is("good above all", x.urn(5, 6, 1, 1), BAD);
        Due.is("good -1", x.urn(5, -1, 1, 1), BAD);
        Due.is("drawn above all", x.urn(5, 2, 6, 1), BAD);
        Due.is("drawn -1", x.urn(5, 2, -1, 1), BAD);
        Due.is("none made", x.count(0), 0);
        Due.fill(x);
        Due.is("FULL", x.urn(5, 2, 1, 1), FULL);
        Due.is("FULL where it cannot be", x.urn(5, 2, 1, 2), FULL);
        Due.is("BAD before FULL", x.urn(61, 2, 1, 1), BAD);
    }

    private static void test() {
        ExactShares x = new ExactShares();
        Due.row(x, 2, 5, 3);
        Due.row(x, 3, 2, 2, 5);
        Due.made("5 3 : 2 2 5", x, x.test(2, 3), 3, 10);
        checkWays(x, 3, 10, 2);
        Due.made("2 2 5 : 5 3", x, x.test(3, 2), 9, 10);
        checkWays(x, 9, 10, 2);
        Due.row(x, 0, 0, 0, 0, 0, 0, 0, 0, 0);
        Due.row(x, 1, 0, 0, 0, 0, 0, 0, 0, 0);
        Due.made("all the same", x, x.test(0, 1), 1, 1);
        checkWays(x, 12870, 12870, 12870);
        Due.row(x, 0, 1000000, 1000000, 1000000, 1000000, 1000000, 1000000, 1000000, 1000000);
        Due.made("greatest above", x, x.test(0, 1), 1, 12870);
        checkWays(x, 1, 12870, 1);
        Due.made("greatest below", x, x.test(1, 0), 1, 1);
        checkWays(x, 12870, 12870, 1);
        Due.row(x, 0, 4);
        Due.row(x, 1, 3);
        Due.made("4 : 3", x, x.test(0, 1), 1, 2);
        Due.made("3 : 4", x, x.test(1, 0), 1, 1);
        checkWays(x, 2, 2, 1);
        Due.row(x, 0, 9);
        Due.row(x, 1, 1, 2, 3, 4, 5, 6, 7, 8);
        Due.made("9 : 1 .. 8", x, x.test(0, 1), 1, 9);
        Due.made("1 .. 8 : 9", x, x.test(1, 0), 1, 1);
        checkWays(x, 9, 9, 1);
    }

    private static void checkWays(ExactShares x, int notBelow, int all, int just) {
        Due.is("ways(0)", x.ways(0), notBelow);
        Due.is("ways(1)", x.ways(1), all);
        Due.is("ways(2)", x.ways(2), just);
    }

    private static void testRefusals() {
        ExactShares x = new ExactShares();
        Due.is("one alone", x.test(0, 0), BAD);
        Due.is("row 4", x.test(4, 0), BAD);
        Due.is("row -1", x.test(0, -1), BAD);
        Due.is("both empty", x.test(0, 1), NONE);
        Due.row(x, 0, 1, 2);
        Due.is("second empty", x.test(0, 1), NONE);
        Due.is("first empty", x.test(1, 0), NONE);
        Due.is("one alone, with values", x.test(0, 0), BAD);
        Due.is("no number", x.count(0), 0);
        Due.row(x, 1, 0, 3);
        Due.fill(x);
        Due.is("FULL", x.test(0, 1), FULL);
        Due.is("refused, so there was none", x.ways(0), NONE);
        Due.is("BAD before FULL", x.test(0, 0), BAD);
        Due.is("NONE before FULL", x.test(0, 2), NONE);
    }

    private static void ways() {
        ExactShares x = new ExactShares();
        Due.is("none", x.ways(0), NONE);
        Due.is("NONE before BAD", x.ways(3), NONE);
        Due.is("NONE before BAD, -1", x.ways(-1), NONE);
        Due.row(x, 0, 1, 2);
        Due.row(x, 1, 0, 3);
        x.test(0, 1);
        checkWays(x, 4, 6, 2);
        Due.is("what 3", x.ways(3), BAD);
        Due.is("what -1", x.ways(-1), BAD);
        x.test(0, 0);
        x.test(0, 2);
        Due.fill(x);
        x.test(1, 0);
        x.empty(0);
        checkWays(x, 4, 6, 2);
    }

    private static void count() {
        ExactShares x = Due.with(MAX, 1, 1, 2);
        Due.row(x, 0, 1);
        Due.row(x, 1, 1, 2);
        Due.row(x, 2, 1, 2, 3);
        Due.row(x, 3, 1, 2, 3, 4);
        Due.is("numbers", x.count(0), 2);
        for (int row = 0; row < 4; row++) {
            Due.is("values of row " + row, x.count(row + 1), row + 1);
        }
        Due.is("none grew", x.count(5), 0);
        x.act(0, 0, 0);
        x.act(3, 0, 1);
        x.over(0, 1);
        x.value(Long.MIN_VALUE, 1);
        Due.is("three grew", x.count(5), 3);
        Due.is("what 6", x.count(6), BAD);
        Due.is("what -1", x.count(-1), BAD);
        Due.is("far what", x.count(Integer.MIN_VALUE), BAD);
        Due.is("numbers still", x.count(0), 2);
    }
}
