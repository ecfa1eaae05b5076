import java.util.function.Supplier;

/** The boundary cases of rows and seats, promises 11 to 16, a method for each sentence. */
public final class RowsEdgesTest {
    private static final long MAX = Long.MAX_VALUE, MIN = Long.MIN_VALUE;
    private static final int MOST = Integer.MAX_VALUE, LEAST = Integer.MIN_VALUE;
    private static final int BAD = ExactShares.BAD, ZERO = ExactShares.ZERO;
    private static final int FULL = ExactShares.FULL, NONE = ExactShares.NONE;
    private static final int[] NO_ROWS = {LEAST, -1, 4, 5, MOST};
    private static final long MILLION = 1000000;

    public static void main(String[] args) {
        intoNoRow();
        intoNoValue();
        intoFull();
        emptyNoRow();
        emptyOfEmptyAndFull();
        atNoRow();
        atNoValue();
        shareNoRow();
        shareNoValue();
        shareOfNoughts();
        seatsNoRow();
        seatsTooFewTooMany();
        seatsAnotherWay();
        seatsOfNoughts();
        seatsWhoGotOne();
        wayCutAndRest();
        wayOfEqualOnes();
        wayDivisors();
        wayGreatest();
        givenNone();
        givenNoValueThen();
        givenByTheLatest();
        Due.end();
    }

    private static void keeps(String sentence, Edge.Call call, long due) {
        Edge.keeps(sentence, Edge::some, call, due);
    }

    private static Supplier<ExactShares> row(int row, long... values) {
        return () -> {
            ExactShares x = new ExactShares();
            Due.row(x, row, values);
            return x;
        };
    }

    private static long[] eight(long v) {
        return new long[] {v, v, v, v, v, v, v, v};
    }

    private static void intoNoRow() {
        for (int row : NO_ROWS) {
            keeps("11: BAD: row " + row, x -> x.into(row, 1), BAD);
        }
        for (int row = 0; row < 4; row++) {
            ExactShares x = new ExactShares();
            Due.is("11: row " + row, x.into(row, 7), 1);
            for (int other = 0; other < 4; other++) {
                Due.is("11: into " + row + " alone, not " + other, x.count(other + 1), other == row ? 1 : 0);
                Due.is("11: value of " + other, x.at(other, 0), other == row ? 7 : -1);
            }
        }
    }

    private static void intoNoValue() {
        String sentence = "11: BAD: not 0 .. 1,000,000: ";
        for (long v : new long[] {MIN, -MAX, -(1L << 32) + 1, -MILLION, -1, MILLION + 1, 1L << 31, 1L << 32,
            (1L << 32) + 1, MAX}) {
            keeps(sentence + v, x -> x.into(Edge.TWO, v), BAD);
            keeps(sentence + v + ", into an empty row", x -> x.into(Edge.EMPTY, v), BAD);
        }
        for (long v : new long[] {0, 1, MILLION - 1, MILLION}) {
            ExactShares x = Edge.some();
            Due.is(sentence + v + " is taken", x.into(Edge.TWO, v), 3);
            Due.is(sentence + v + " is there", x.at(Edge.TWO, 2), v);
            Due.is(sentence + v + " is the last", x.at(Edge.TWO, 3), -1);
            Due.is(sentence + v + " is counted", x.count(Edge.TWO + 1), 3);
        }
    }

    private static void intoFull() {
        for (int row = 0; row < 4; row++) {
            int r = row;
            ExactShares x = new ExactShares();
            for (int many = 1; many <= 8; many++) {
                Due.is("11: FULL: 8: value " + many + " of row " + r, x.into(r, many), many);
            }
            Due.is("11: FULL: 8: the ninth of row " + r, x.into(r, 9), FULL);
            Due.is("11: another row has room", x.into((r + 1) % 4, 9), 1);
            Edge.keeps("11: FULL: 8: row " + r, row(r, 1, 2, 3, 4, 5, 6, 7, 8), y -> y.into(r, 0), FULL);
            Due.is("12: it had 8", x.empty(r), 8);
            Due.is("11: room again", x.into(r, 5), 1);
        }
    }

    private static void emptyNoRow() {
        for (int row : NO_ROWS) {
            keeps("12: BAD: row " + row, x -> x.empty(row), BAD);
        }
        for (int row = 0; row < 4; row++) {
            ExactShares x = new ExactShares();
            for (int other = 0; other < 4; other++) {
                Due.row(x, other, 3, 4);
            }
            Due.is("12: row " + row + " had", x.empty(row), 2);
            for (int other = 0; other < 4; other++) {
                Due.is("12: empty(" + row + ") and row " + other, x.count(other + 1), other == row ? 0 : 2);
            }
        }
    }

    private static void emptyOfEmptyAndFull() {
        keeps("12: an empty row had none", x -> x.empty(Edge.EMPTY), 0);
        ExactShares x = new ExactShares();
        Due.row(x, 2, 6);
        Due.is("12: it had one", x.empty(2), 1);
        Due.is("12: it is empty then", x.empty(2), 0);
        Due.is("12: its value is gone", x.at(2, 0), -1);
        Due.row(x, 2, eight(1));
        Due.is("12: it had 8", x.empty(2), 8);
        Due.is("12: the last is gone", x.at(2, 7), -1);
        Due.is("12: the next is the first", x.into(2, 4), 1);
        Due.is("12: an earlier second is gone", x.at(2, 1), -1);
    }

    private static void atNoRow() {
        for (int row : NO_ROWS) {
            keeps("13: -1: row " + row, x -> x.at(row, 0), -1);
        }
        keeps("13: row 0", x -> x.at(0, 0), 5);
        Edge.keeps("13: row 3", row(3, 8), x -> x.at(3, 0), 8);
    }

    private static void atNoValue() {
        for (int k : Edge.NEVER) {
            keeps("13: -1: value " + k, x -> x.at(Edge.THREE, k), -1);
        }
        keeps("13: the first", x -> x.at(Edge.THREE, 0), 2);
        keeps("13: the last", x -> x.at(Edge.THREE, 2), 5);
        keeps("13: -1: one behind the last", x -> x.at(Edge.THREE, 3), -1);
        keeps("13: -1: of an empty row", x -> x.at(Edge.EMPTY, 0), -1);
        keeps("13: a value of 0 is one", x -> x.at(Edge.NOUGHTS, 1), 0);
        Edge.keeps("13: the eighth", row(1, 1, 2, 3, 4, 5, 6, 7, MILLION), x -> x.at(1, 7), MILLION);
        Edge.keeps("13: -1: a ninth", row(1, 1, 2, 3, 4, 5, 6, 7, MILLION), x -> x.at(1, 8), -1);
    }

    private static void shareNoRow() {
        for (int row : NO_ROWS) {
            keeps("14: BAD: row " + row, x -> x.share(row, 0), BAD);
        }
        Edge.makes("14: row 0", Edge::some, x -> x.share(0, 0), 5, 8);
        Edge.makes("14: row 3", row(3, 8), x -> x.share(3, 0), 1, 1);
    }

    private static void shareNoValue() {
        for (int k : Edge.NEVER) {
            keeps("14: BAD: value " + k, x -> x.share(Edge.THREE, k), BAD);
        }
        Edge.makes("14: the first", Edge::some, x -> x.share(Edge.THREE, 0), 2, 9);
        Edge.makes("14: the last", Edge::some, x -> x.share(Edge.THREE, 2), 5, 9);
        keeps("14: BAD: one behind the last", x -> x.share(Edge.THREE, 3), BAD);
        keeps("14: BAD: of an empty row", x -> x.share(Edge.EMPTY, 0), BAD);
        Edge.makes("14: the eighth", row(1, eight(MILLION)), x -> x.share(1, 7), 1, 8);
        Edge.keeps("14: BAD: a ninth", row(1, eight(MILLION)), x -> x.share(1, 8), BAD);
    }

    private static void shareOfNoughts() {
        String sentence = "14: ArithmeticException: the sum is 0: ";
        keeps(sentence + "the first of two", x -> x.share(Edge.NOUGHTS, 0), Edge.THROWN);
        keeps(sentence + "the last of two", x -> x.share(Edge.NOUGHTS, 1), Edge.THROWN);
        Edge.keeps(sentence + "of one", row(0, 0), x -> x.share(0, 0), Edge.THROWN);
        Edge.keeps(sentence + "of eight", row(0, eight(0)), x -> x.share(0, 7), Edge.THROWN);
        Edge.makes(sentence + "it is 1", row(0, 0, 1), x -> x.share(0, 1), 1, 1);
        Edge.makes(sentence + "it is 1, of a 0", row(0, 0, 1), x -> x.share(0, 0), 0, 1);
        Edge.makes("14: the greatest sum but one", row(0, MILLION, MILLION, MILLION, MILLION, MILLION, MILLION,
            MILLION, 999999), x -> x.share(0, 0), 1000000, 7999999);
    }

    private static void seatsNoRow() {
        for (int row : NO_ROWS) {
            for (int way = 0; way <= 2; way++) {
                int w = way;
                keeps("15: BAD: row " + row + " way " + w, x -> x.seats(row, 5, w), BAD);
            }
        }
        for (int row = 0; row < 4; row++) {
            ExactShares x = row(row, 4, 6).get();
            Due.is("15: row " + row, x.seats(row, 5, 0), 2);
            Due.is("15: row " + row + ", the first", x.given(0), 2);
            Due.is("15: row " + row + ", the second", x.given(1), 3);
        }
    }

    private static void seatsTooFewTooMany() {
        String sentence = "15: BAD: n not 0 .. 2,000: ";
        for (int way = 0; way <= 2; way++) {
            int w = way;
            for (int n : new int[] {LEAST, -2000, -1, 2001, 2002, MOST}) {
                keeps(sentence + n + " way " + w, x -> x.seats(Edge.THREE, n, w), BAD);
            }
            seats(sentence + "0", new long[] {4, 6}, 0, w, 0, 0);
            seats(sentence + "1", new long[] {4, 6}, 1, w, 0, 1);
            seats(sentence + "1,999", new long[] {0, 6}, 1999, w, 0, 1999);
            seats(sentence + "2,000", new long[] {4, 6}, 2000, w, 800, 1200);
        }
    }

    private static void seatsAnotherWay() {
        for (int way : new int[] {LEAST, -1, 3, 4, MOST}) {
            keeps("15: BAD: the WAY " + way, x -> x.seats(Edge.THREE, 5, way), BAD);
            keeps("15: BAD: the WAY " + way + " of no seats", x -> x.seats(Edge.THREE, 0, way), BAD);
        }
        // Each way from 0 to 2 gives otherwise.
        long[] row = {91, 60, 19};
        seats("15: WAY 0", row, 4, 0, 2, 1, 1);
        seats("15: WAY 1", row, 4, 1, 3, 1, 0);
        seats("15: WAY 2", row, 4, 2, 2, 2, 0);
    }

    private static void seatsOfNoughts() {
        String sentence = "15: ZERO: the sum is 0: ";
        for (int way = 0; way <= 2; way++) {
            int w = way;
            keeps(sentence + "two of 0, way " + w, x -> x.seats(Edge.NOUGHTS, 5, w), ZERO);
            keeps(sentence + "none, way " + w, x -> x.seats(Edge.EMPTY, 5, w), ZERO);
            keeps(sentence + "no seats, way " + w, x -> x.seats(Edge.NOUGHTS, 0, w), ZERO);
            keeps(sentence + "no seats, none, way " + w, x -> x.seats(Edge.EMPTY, 0, w), ZERO);
            Edge.keeps(sentence + "eight of 0, way " + w, row(0, eight(0)), x -> x.seats(0, 2000, w), ZERO);
            seats(sentence + "it is 1", new long[] {0, 0, 1}, 3, w, 0, 0, 3);
            seats(sentence + "it is 1, the first", new long[] {1, 0, 0}, 3, w, 3, 0, 0);
        }
    }

    /** Gives seats to row 2 and looks at each value, at what is answered, and that nothing else is changed. */
    private static void seats(String sentence, long[] values, int n, int way, int... due) {
        String call = sentence + ": " + n + " seats by way " + way;
        ExactShares x = row(2, values).get();
        int got = 0;
        for (int d : due) {
            got += d > 0 ? 1 : 0;
        }
        Due.is(call, x.seats(2, n, way), got);
        for (int k = 0; k < due.length; k++) {
            Due.is(call + ", value " + k, x.given(k), due[k]);
        }
        Due.is(call + ", no value more", x.given(due.length), NONE);
        for (int k = 0; k < values.length; k++) {
            Due.is(call + ", at " + k, x.at(2, k), values[k]);
        }
        Due.is(call + ", values", x.count(3), values.length);
        Due.is(call + ", numbers", x.count(0), 0);
        Due.is(call + ", ways", x.ways(1), NONE);
    }

    private static void seatsWhoGotOne() {
        String sentence = "15: who got one at least";
        for (int way = 0; way <= 2; way++) {
            seats(sentence + ", one alone", new long[] {9}, 0, way, 0);
            seats(sentence + ", one alone", new long[] {9}, 1, way, 1);
            seats(sentence + ", one alone", new long[] {9}, 2000, way, 2000);
            seats(sentence + ", one seat too few", eight(5), 7, way, 1, 1, 1, 1, 1, 1, 1, 0);
            seats(sentence + ", all", eight(5), 8, way, 1, 1, 1, 1, 1, 1, 1, 1);
            seats(sentence + ", one more", eight(5), 9, way, 2, 1, 1, 1, 1, 1, 1, 1);
        }
    }

    private static void wayCutAndRest() {
        String cut = "terms: by WAY 0 n times it by the sum, cut";
        seats(cut + ", no rest", new long[] {1, 2, 3}, 6, 0, 1, 2, 3);
        seats(cut + ", a rest of one", new long[] {1, 2, 4}, 6, 0, 1, 2, 3);
        seats(cut + ", all cut to 0", new long[] {3, 4, 5}, 2, 0, 0, 1, 1);
        String rest = "terms: by WAY 0 the rest one each";
        seats(rest + ", to seven of eight", eight(1), 7, 0, 1, 1, 1, 1, 1, 1, 1, 0);
        seats(rest + ", none to a value of 0", new long[] {0, 5, 5, 0}, 3, 0, 0, 2, 1, 0);
        seats(rest + ", the greatest remainders", new long[] {13, 16, 71}, 10, 0, 1, 2, 7);
        seats(rest + ", not two to one", new long[] {199, 199, 202}, 2, 0, 1, 0, 1);
    }

    private static void wayOfEqualOnes() {
        String first = "terms: of equal ones the first";
        seats(first, new long[] {1, 1, 1}, 1, 0, 1, 0, 0);
        seats(first, new long[] {1, 1, 1}, 2, 0, 1, 1, 0);
        seats(first, new long[] {1, 1, 1}, 4, 1, 2, 1, 1);
        seats(first, new long[] {1, 1, 1}, 5, 2, 2, 2, 1);
        seats(first + ", remainders of others", new long[] {1, 3}, 2, 0, 1, 1);
        seats(first + ", remainders of others", new long[] {3, 1}, 2, 0, 2, 0);
        seats(first + ", 2 by 2 and 1 by 1", new long[] {2, 1}, 2, 1, 2, 0);
        seats(first + ", 1 by 1 and 2 by 2", new long[] {1, 2}, 2, 1, 1, 1);
        seats(first + ", 3 by 3 and 1 by 1", new long[] {3, 1}, 2, 2, 2, 0);
        seats(first + ", 1 by 1 and 3 by 3", new long[] {1, 3}, 2, 2, 1, 1);
        seats(first + ", of the greatest", new long[] {2, 3, 3, 2}, 1, 1, 0, 1, 0, 0);
    }

    private static void wayDivisors() {
        String one = "terms: by WAY 1 by what it has and 1";
        seats(one + ", just above 2 to 1", new long[] {20, 9}, 2, 1, 2, 0);
        seats(one + ", just below 2 to 1", new long[] {20, 11}, 2, 1, 1, 1);
        seats(one + ", just above 3 to 2", new long[] {30, 19}, 4, 1, 3, 1);
        seats(one + ", just below 3 to 2", new long[] {30, 21}, 4, 1, 2, 2);
        String two = "terms: by WAY 2 by twice what it has and 1";
        seats(two + ", just above 3 to 1", new long[] {30, 9}, 2, 2, 2, 0);
        seats(two + ", just below 3 to 1", new long[] {30, 11}, 2, 2, 1, 1);
        seats(two + ", just above 5 to 1", new long[] {50, 9}, 3, 2, 3, 0);
        seats(two + ", just below 5 to 1", new long[] {50, 11}, 3, 2, 2, 1);
    }

    private static void wayGreatest() {
        String sentence = "15: greatest values and most seats";
        seats(sentence, eight(MILLION), 2000, 0, 250, 250, 250, 250, 250, 250, 250, 250);
        seats(sentence, eight(MILLION), 1999, 1, 250, 250, 250, 250, 250, 250, 250, 249);
        seats(sentence, eight(MILLION), 1993, 2, 250, 249, 249, 249, 249, 249, 249, 249);
        for (int way = 0; way <= 2; way++) {
            seats(sentence + ", one of 1", new long[] {1, MILLION}, 2000, way, 0, 2000);
            seats(sentence + ", one of 1 behind", new long[] {MILLION, 1}, 2000, way, 2000, 0);
        }
        seats(sentence + ", the last seat", new long[] {MILLION, 500}, 2000, 1, 2000, 0);
        seats(sentence + ", the last seat", new long[] {MILLION, 501}, 2000, 1, 1999, 1);
        seats(sentence + ", the last seat", new long[] {500, MILLION}, 2000, 1, 1, 1999);
    }

    private static void givenNone() {
        String sentence = "16: NONE: there was none: ";
        for (int k : new int[] {LEAST, -1, 0, 1, 7, 8, MOST}) {
            Edge.keeps(sentence + k, ExactShares::new, x -> x.given(k), NONE);
            Edge.keeps(sentence + "a row with values, " + k, row(0, eight(3)), x -> x.given(k), NONE);
        }
        Supplier<ExactShares> refused = () -> {
            ExactShares x = row(0, 3, 4).get();
            x.seats(1, 5, 0);
            x.seats(0, 2001, 1);
            x.seats(0, 5, 3);
            x.seats(4, 5, 2);
            return x;
        };
        Edge.keeps(sentence + "all were refused", refused, x -> x.given(0), NONE);
    }

    private static void givenNoValueThen() {
        String sentence = "16: NONE: no such VALUE then: ";
        for (int k : Edge.NEVER) {
            keeps(sentence + k, x -> x.given(k), NONE);
        }
        keeps("16: the first", x -> x.given(0), 3);
        keeps("16: the last", x -> x.given(1), 1);
        keeps(sentence + "one behind the last", x -> x.given(2), NONE);
        ExactShares x = row(0, 6, 2).get();
        x.seats(0, 4, 0);
        x.into(0, 8);
        Due.is(sentence + "it came later", x.given(2), NONE);
        x.empty(0);
        Due.is("16: the row was emptied later", x.given(0), 3);
        Due.is("16: the row was emptied later, the last", x.given(1), 1);
        Due.row(x, 0, eight(9));
        Due.is("16: the row is another now", x.given(0), 3);
        Due.is(sentence + "the eighth came later", x.given(7), NONE);
        x.seats(0, 8, 0);
        Due.is("16: the eighth", x.given(7), 1);
        Due.is(sentence + "a ninth", x.given(8), NONE);
        Due.row(x, 0, 9);
        x.seats(0, 5, 2);
        Due.is("16: one alone", x.given(0), 5);
        Due.is(sentence + "an earlier row had it", x.given(1), NONE);
        Due.is(sentence + "an earlier row had eight", x.given(7), NONE);
    }

    private static void givenByTheLatest() {
        ExactShares x = new ExactShares();
        Due.row(x, 0, 3, 1);
        Due.row(x, 1, 1, 3);
        x.seats(0, 4, 0);
        Due.is("16: the latest", x.given(0), 3);
        x.seats(1, 4, 1);
        Due.is("16: the latest, another row", x.given(0), 1);
        x.seats(0, 0, 2);
        Due.is("16: the latest gave none, which is not NONE", x.given(0), 0);
        Due.is("16: the latest gave none, the last", x.given(1), 0);
        x.seats(0, 8, 1);
        x.seats(2, 4, 0);
        x.seats(1, -1, 0);
        x.seats(1, 4, 3);
        x.seats(-1, 4, 0);
        Due.is("16: that was not refused", x.given(0), 6);
        Due.is("16: that was not refused, the last", x.given(1), 2);
    }
}
