/** Promises 11 to 16. */
public final class RowsTest {
    private static final int BAD = ExactShares.BAD, ZERO = ExactShares.ZERO;
    private static final int FULL = ExactShares.FULL, NONE = ExactShares.NONE;

    public static void main(String[] args) {
        into();
        empty();
        at();
        share();
        seatsByRemainders();
        seatsOneByOne();
        seatsRefusals();
        given();
        Due.end();
    }

    private static void into() {
        ExactShares x = new ExactShares();
        Due.is("0", x.into(0, 0), 1);
        Due.is("1,000,000", x.into(0, 1000000), 2);
        Due.is("-1", x.into(0, -1), BAD);
        Due.is("1,000,001", x.into(0, 1000001), BAD);
        Due.is("2^32", x.into(0, 1L << 32), BAD);
        Due.is("row 4", x.into(4, 1), BAD);
        Due.is("row -1", x.into(-1, 1), BAD);
        Due.is("refused changes nothing", x.count(1), 2);
        Due.is("row 3", x.into(3, 9), 1);
        for (int k = 3; k <= 8; k++) {
            Due.is("value " + k, x.into(0, k), k);
        }
        Due.is("the ninth", x.into(0, 1), FULL);
        Due.is("BAD before FULL", x.into(0, -1), BAD);
        Due.is("still 8", x.count(1), 8);
        Due.is("the last", x.at(0, 7), 8);
        Due.is("row 3 apart", x.at(3, 0), 9);
        Due.is("row 1 empty", x.count(2), 0);
    }

    private static void empty() {
        ExactShares x = new ExactShares();
        Due.row(x, 1, 4, 5, 6);
        Due.row(x, 2, 7);
        Due.is("had 3", x.empty(1), 3);
        Due.is("has none", x.count(2), 0);
        Due.is("nothing there", x.at(1, 0), -1);
        Due.is("had none", x.empty(1), 0);
        Due.is("another row stays", x.at(2, 0), 7);
        Due.is("row 4", x.empty(4), BAD);
        Due.is("row -1", x.empty(-1), BAD);
        Due.is("again", x.into(1, 3), 1);
        Due.is("the new one", x.at(1, 0), 3);
    }

    private static void at() {
        ExactShares x = new ExactShares();
        Due.row(x, 2, 4, 0, 6);
        Due.is("0", x.at(2, 0), 4);
        Due.is("1", x.at(2, 1), 0);
        Due.is("2", x.at(2, 2), 6);
        Due.is("3", x.at(2, 3), -1);
        Due.is("8", x.at(2, 8), -1);
        Due.is("-1", x.at(2, -1), -1);
        Due.is("row 4", x.at(4, 0), -1);
        Due.is("row -1", x.at(-1, 0), -1);
        Due.is("empty row", x.at(0, 0), -1);
    }

    private static void share() {
        ExactShares x = new ExactShares();
        Due.row(x, 0, 10, 0, 30, 20);
        Due.made("10 of 60", x, x.share(0, 0), 1, 6);
        Due.made("0 of 60", x, x.share(0, 1), 0, 1);
        Due.made("30 of 60", x, x.share(0, 2), 1, 2);
        Due.made("20 of 60", x, x.share(0, 3), 1, 3);
        Due.is("no value 4", x.share(0, 4), BAD);
        Due.is("no value -1", x.share(0, -1), BAD);
        Due.is("no row 4", x.share(4, 0), BAD);
        Due.is("no row -1", x.share(-1, 0), BAD);
        Due.is("no value of an empty row", x.share(1, 0), BAD);
        Due.row(x, 1, 0, 0);
        Due.shareThrows(x, 1, 0);
        Due.shareThrows(x, 1, 1);
        Due.is("no value before a sum of 0", x.share(1, 2), BAD);
        Due.is("no number of a thrown call", x.count(0), 4);
        Due.row(x, 2, 1000000, 1000000, 1000000, 1000000, 1000000, 1000000, 1000000, 999999);
        Due.made("great sum", x, x.share(2, 7), 142857, 1142857);
        Due.fill(x);
        Due.is("FULL", x.share(0, 0), FULL);
        Due.is("FULL before a sum of 0", x.share(1, 0), FULL);
        Due.is("BAD before FULL", x.share(1, 2), BAD);
    }

    private static void seats(ExactShares x, int n, int way, int... due) {
        int got = 0;
        for (int d : due) {
            got += d > 0 ? 1 : 0;
        }
        String call = "seats(0, " + n + ", " + way + ")";
        Due.is(call, x.seats(0, n, way), got);
        for (int k = 0; k < due.length; k++) {
            Due.is(call + " given(" + k + ")", x.given(k), due[k]);
        }
        Due.is(call + " no value more", x.given(due.length), NONE);
    }

    private static void seatsByRemainders() {
        ExactShares x = new ExactShares();
        Due.row(x, 0, 47000, 16000, 15900, 12000, 6000, 3100);
        seats(x, 10, 0, 5, 2, 1, 1, 1, 0);
        seats(x, 0, 0, 0, 0, 0, 0, 0, 0);
        seats(x, 100, 0, 47, 16, 16, 12, 6, 3);
        Due.row(x, 0, 1, 1, 1);
        seats(x, 1, 0, 1, 0, 0);
        seats(x, 2, 0, 1, 1, 0);
        seats(x, 3, 0, 1, 1, 1);
        seats(x, 5, 0, 2, 2, 1);
        Due.row(x, 0, 1, 2, 2);
        seats(x, 1, 0, 0, 1, 0);
        Due.row(x, 0, 0, 1);
        seats(x, 3, 0, 0, 3);
        Due.row(x, 0, 0, 5, 0);
        seats(x, 2000, 0, 0, 2000, 0);
        Due.row(x, 0, 1000000, 1000000, 1000000, 1000000, 1000000, 1000000, 1000000, 1);
        seats(x, 2000, 0, 286, 286, 286, 286, 286, 285, 285, 0);
    }

    private static void seatsOneByOne() {
        ExactShares x = new ExactShares();
        Due.row(x, 0, 47000, 16000, 15900, 12000, 6000, 3100);
        seats(x, 10, 1, 5, 2, 2, 1, 0, 0);
        seats(x, 10, 2, 4, 2, 2, 1, 1, 0);
        seats(x, 0, 1, 0, 0, 0, 0, 0, 0);
        seats(x, 0, 2, 0, 0, 0, 0, 0, 0);
        Due.row(x, 0, 2, 1);
        seats(x, 1, 1, 1, 0);
        seats(x, 2, 1, 2, 0);
        seats(x, 3, 1, 2, 1);
        Due.row(x, 0, 1, 2);
        seats(x, 2, 1, 1, 1);
        Due.row(x, 0, 3, 1);
        seats(x, 2, 2, 2, 0);
        seats(x, 3, 2, 2, 1);
        seats(x, 2, 1, 2, 0);
        Due.row(x, 0, 1, 3);
        seats(x, 2, 2, 1, 1);
        Due.row(x, 0, 0, 7, 0);
        seats(x, 2000, 1, 0, 2000, 0);
        seats(x, 2000, 2, 0, 2000, 0);
        Due.row(x, 0, 8, 7, 6, 5, 4, 3, 2, 1);
        seats(x, 36, 1, 8, 7, 6, 5, 4, 3, 2, 1);
        seats(x, 36, 2, 8, 7, 6, 5, 4, 3, 2, 1);
        Due.row(x, 0, 1000000, 999999);
        seats(x, 2000, 1, 1000, 1000);
        seats(x, 1999, 2, 1000, 999);
    }

    private static void seatsRefusals() {
        ExactShares x = new ExactShares();
        Due.is("an empty row has the sum 0", x.seats(0, 5, 0), ZERO);
        Due.row(x, 0, 0, 0);
        Due.is("sum 0", x.seats(0, 5, 1), ZERO);
        Due.is("BAD before ZERO, n", x.seats(0, 2001, 1), BAD);
        Due.is("BAD before ZERO, way", x.seats(0, 5, 3), BAD);
        Due.is("given of none", x.given(0), NONE);
        Due.row(x, 1, 3, 1);
        Due.is("good", x.seats(1, 4, 0), 2);
        Due.is("row 4", x.seats(4, 5, 0), BAD);
        Due.is("row -1", x.seats(-1, 5, 0), BAD);
        Due.is("n -1", x.seats(1, -1, 0), BAD);
        Due.is("n 2001", x.seats(1, 2001, 0), BAD);
        Due.is("way 3", x.seats(1, 1, 3), BAD);
        Due.is("way -1", x.seats(1, 1, -1), BAD);
        Due.is("sum 0", x.seats(0, 1, 2), ZERO);
        Due.is("refused changes nothing", x.given(0), 3);
        Due.is("refused changes nothing, 1", x.given(1), 1);
        Due.is("no numbers of it", x.count(0), 0);
    }

    private static void given() {
        ExactShares x = new ExactShares();
        Due.is("none yet", x.given(0), NONE);
        Due.row(x, 0, 3, 1);
        x.seats(0, 4, 0);
        Due.is("-1", x.given(-1), NONE);
        Due.is("0", x.given(0), 3);
        Due.is("1", x.given(1), 1);
        Due.is("2", x.given(2), NONE);
        Due.is("8", x.given(8), NONE);
        x.into(0, 5);
        Due.is("a later value is none then", x.given(2), NONE);
        x.empty(0);
        Due.is("a row emptied later had it then", x.given(0), 3);
        Due.row(x, 1, 9);
        x.seats(1, 7, 2);
        Due.is("the latest", x.given(0), 7);
        Due.is("no value 1 of the latest", x.given(1), NONE);
    }
}
