import java.util.function.Supplier;

/**
 * What a call that is not refused changes, and that it changes nothing else: not a number, not another row, not the
 * seats given, not the ways of the latest test, not how often GREW was answered.
 */
public final class ChangesTest {
    /** What an object shows, part by part; the rows are parts 1 to 4. */
    private static final int NUMBERS = 0, ROW = 1, GIVEN = 5, WAYS = 6, GREWS = 7, PARTS = 8;
    private static final String NOTHING = ExactShares.NOTHING + "/" + ExactShares.NOTHING;
    private static final String NO_MORE = " -1 -1 -1 -1 -1 -1 -1 -1 -1";

    public static void main(String[] args) {
        ladenIsAsTold();
        dropChangesNumbers();
        dropOfAll();
        intoChangesItsRow();
        emptyChangesItsRow();
        seatsChangeWhatIsGiven();
        testChangesNumbersAndWays();
        newNumbersChangeNoOther();
        grewIsCounted();
        rowsAndNumbersAreApart();
        refusedChangesNothing();
        Due.end();
    }

    private static String[] partsOf(ExactShares x) {
        String[] parts = new String[PARTS];
        parts[NUMBERS] = Edge.numbersOf(x);
        for (int row = 0; row < 4; row++) {
            parts[ROW + row] = Edge.rowOf(x, row);
        }
        parts[GIVEN] = Edge.givenOf(x);
        parts[WAYS] = Edge.waysOf(x);
        parts[GREWS] = "GREW " + x.count(5);
        return parts;
    }

    /** The call answers what is due, one part is then as told, and every other is that of a twin without the call. */
    private static void changes(String what, Supplier<ExactShares> object, Edge.Call call, long due, int part,
        String then) {
        ExactShares x = object.get();
        Due.is(what, Edge.answer(x, call), due);
        String[] got = partsOf(x);
        String[] before = partsOf(object.get());
        for (int i = 0; i < PARTS; i++) {
            Due.same(what + ", part " + i, got[i], i == part ? then : before[i]);
        }
    }

    /** Rows of 8, 1, 0 and 7 values, seats given to the first, a test of the first two, so many numbers, one GREW. */
    private static ExactShares laden(int numbers) {
        ExactShares x = Due.with(Long.MAX_VALUE, 1);
        Due.row(x, 0, 8, 7, 6, 5, 4, 3, 2, 1);
        Due.row(x, 1, 1000000);
        Due.row(x, 3, 0, 1, 2, 3, 4, 5, 6);
        x.seats(0, 40, 1);
        x.test(0, 1);
        x.act(2, 0, 0);
        x.drop();
        x.drop();
        for (int a = 0; a < numbers; a++) {
            x.value(2 * a + 1, 2);
        }
        return x;
    }

    private static String halves(int numbers) {
        StringBuilder text = new StringBuilder("numbers");
        for (int a = 0; a < numbers; a++) {
            text.append(' ').append(2 * a + 1).append("/2");
        }
        return text.append(", then ").append(NOTHING).toString();
    }

    private static void ladenIsAsTold() {
        String[] due = {"numbers 1/2, then " + NOTHING, "row of 8 8 7 6 5 4 3 2 1 -1",
            "row of 1 1000000" + NO_MORE.substring(3), "row of 0" + NO_MORE, "row of 7 0 1 2 3 4 5 6 -1 -1",
            "given 9 8 7 6 4 3 2 1 -5", "ways 9 9 1", "GREW 1"};
        String[] got = partsOf(laden(1));
        for (int i = 0; i < PARTS; i++) {
            Due.same("what all calls together made, part " + i, got[i], due[i]);
        }
    }

    private static void dropChangesNumbers() {
        for (int numbers : new int[] {1, 2, 3, 20, 39, 40}) {
            changes("5: drop of " + numbers, () -> laden(numbers), x -> x.drop(), numbers - 1, NUMBERS,
                halves(numbers - 1));
        }
    }

    private static void dropOfAll() {
        ExactShares x = laden(40);
        String[] before = partsOf(x);
        for (int left = 39; left >= 0; left--) {
            Due.is("5: the last NUMBER goes", x.drop(), left);
        }
        Due.is("5: NONE", x.drop(), ExactShares.NONE);
        String[] after = partsOf(x);
        for (int i = NUMBERS + 1; i < PARTS; i++) {
            Due.same("5: all NUMBERS went, part " + i, after[i], before[i]);
        }
    }

    private static void intoChangesItsRow() {
        changes("11: the second", () -> laden(3), x -> x.into(1, 5), 2, ROW + 1,
            "row of 2 1000000 5" + NO_MORE.substring(6));
        changes("11: the first", () -> laden(3), x -> x.into(2, 0), 1, ROW + 2, "row of 1 0" + NO_MORE.substring(3));
        changes("11: the eighth", () -> laden(3), x -> x.into(3, 1000000), 8, ROW + 3,
            "row of 8 0 1 2 3 4 5 6 1000000 -1");
        for (int row = 0; row < 4; row++) {
            int r = row;
            changes("11: the first of row " + r, ExactShares::new, x -> x.into(r, 9), 1, ROW + r,
                "row of 1 9" + NO_MORE.substring(3));
        }
    }

    private static void emptyChangesItsRow() {
        int[] had = {8, 1, 0, 7};
        for (int row = 0; row < 4; row++) {
            int r = row;
            changes("12: row " + r, () -> laden(3), x -> x.empty(r), had[r], ROW + r, "row of 0" + NO_MORE);
            changes("12: row " + r + ", no numbers", () -> laden(0), x -> x.empty(r), had[r], ROW + r,
                "row of 0" + NO_MORE);
        }
    }

    private static void seatsChangeWhatIsGiven() {
        String none = " -5 -5 -5 -5 -5 -5 -5 -5 -5";
        for (int way = 0; way <= 2; way++) {
            int w = way;
            changes("15: one alone, way " + w, () -> laden(3), x -> x.seats(1, 9, w), 1, GIVEN,
                "given 9" + none.substring(3));
            changes("15: seven, way " + w, () -> laden(40), x -> x.seats(3, 21, w), 6, GIVEN,
                "given 0 1 2 3 4 5 6 -5 -5");
            changes("15: eight, way " + w, () -> laden(0), x -> x.seats(0, 72, w), 8, GIVEN,
                "given 16 14 12 10 8 6 4 2 -5");
            changes("15: no seats, way " + w, () -> laden(3), x -> x.seats(3, 0, w), 0, GIVEN,
                "given 0 0 0 0 0 0 0 -5 -5");
        }
    }

    private static void testChangesNumbersAndWays() {
        for (int numbers : new int[] {0, 3, 39}) {
            ExactShares x = laden(numbers);
            String[] before = partsOf(x);
            Due.is("19: its number", x.test(1, 3), numbers);
            Due.number(x, numbers, 1, 8);
            String[] after = partsOf(x);
            Due.same("20: its ways", after[WAYS], "ways 1 8 1");
            for (int i = 1; i < PARTS; i++) {
                if (i != WAYS) {
                    Due.same("19: of " + numbers + ", part " + i, after[i], before[i]);
                }
            }
            x.drop();
            Due.same("19: the other numbers", Edge.numbersOf(x), before[NUMBERS]);
            Due.same("20: its ways, the number gone", Edge.waysOf(x), "ways 1 8 1");
        }
    }

    private static void makes(String what, int numbers, Edge.Call call, String made) {
        String then = halves(numbers).replace(", then", " " + made + ", then");
        changes(what, () -> laden(numbers), call, numbers, NUMBERS, then);
    }

    private static void newNumbersChangeNoOther() {
        for (int numbers : new int[] {3, 39}) {
            makes("2: value", numbers, x -> x.value(-8, 6), "-4/3");
            makes("3: SUM", numbers, x -> x.act(0, 0, 1), "2/1");
            makes("3: DIFFERENCE", numbers, x -> x.act(1, 0, 1), "-1/1");
            makes("3: PRODUCT", numbers, x -> x.act(2, 0, 1), "3/4");
            makes("3: QUOTIENT", numbers, x -> x.act(3, 0, 1), "1/3");
            makes("4: over", numbers, x -> x.over(0, 1), "1/3");
            makes("8: simplest", numbers, x -> x.simplest(0, 1), "1/1");
            makes("9: near", numbers, x -> x.near(1, 1), "1/1");
            makes("14: share", numbers, x -> x.share(0, 0), "2/9");
            makes("17: tail", numbers, x -> x.tail(2, 2, 0), "1/4");
            makes("18: urn", numbers, x -> x.urn(3, 1, 1, 1), "1/3");
        }
        makes("2: value, the first", 0, x -> x.value(-8, 6), "-4/3");
        makes("14: share, the first", 0, x -> x.share(0, 0), "2/9");
        makes("18: urn, the first", 0, x -> x.urn(3, 1, 1, 1), "1/3");
    }

    private static void grewIsCounted() {
        Supplier<ExactShares> object = () -> {
            ExactShares x = laden(2);
            x.value(Long.MAX_VALUE, 1);
            x.value(1, Long.MAX_VALUE);
            return x;
        };
        changes("21: GREW of act 0", object, x -> x.act(0, 2, 2), ExactShares.GREW, GREWS, "GREW 2");
        changes("21: GREW of act 1", object, x -> x.act(1, 3, 0), ExactShares.GREW, GREWS, "GREW 2");
        changes("21: GREW of act 2", object, x -> x.act(2, 3, 3), ExactShares.GREW, GREWS, "GREW 2");
        changes("21: GREW of act 3", object, x -> x.act(3, 3, 2), ExactShares.GREW, GREWS, "GREW 2");
        changes("21: GREW of over", object, x -> x.over(2, 3), ExactShares.GREW, GREWS, "GREW 2");
        changes("21: GREW of value", object, x -> x.value(Long.MIN_VALUE, 3), ExactShares.GREW, GREWS, "GREW 1");
        changes("21: GREW of tail", object, x -> x.tail(2, 1, 3), ExactShares.GREW, GREWS, "GREW 1");
    }

    /** Numbers keep what they are, whatever becomes of the rows and the numbers that they were made of. */
    private static void rowsAndNumbersAreApart() {
        ExactShares x = new ExactShares();
        Due.row(x, 0, 3, 5);
        Due.row(x, 1, 4);
        Due.is("14: share", x.share(0, 0), 0);
        Due.is("19: test", x.test(0, 1), 1);
        x.seats(0, 4, 2);
        x.into(0, 9);
        x.empty(1);
        Due.number(x, 0, 3, 8);
        Due.number(x, 1, 2, 3);
        Due.same("16: as it was", Edge.givenOf(x), "given 2 2 -5 -5 -5 -5 -5 -5 -5");
        Due.same("20: as it was", Edge.waysOf(x), "ways 2 3 1");
        Due.is("14: share of the row as it is now", x.share(0, 0), 2);
        Due.number(x, 2, 3, 17);
        Due.number(x, 0, 3, 8);
        x.drop();
        Due.is("2: in place of the dropped one", x.value(1, 9), 2);
        Due.number(x, 1, 2, 3);
        Due.number(x, 2, 1, 9);
    }

    private static void refused(String what, int numbers, Edge.Call call, long due) {
        ExactShares x = laden(numbers);
        Due.is(what, Edge.answer(x, call), due);
        Due.same(what + " changes nothing", String.join(", ", partsOf(x)), String.join(", ", partsOf(laden(numbers))));
    }

    /** The refusals that an object must be laden for, or bare. */
    private static void refusedChangesNothing() {
        refused("5: NONE", 0, x -> x.drop(), ExactShares.NONE);
        for (int numbers : new int[] {0, 3, 40}) {
            refused("11: FULL", numbers, x -> x.into(0, 4), ExactShares.FULL);
            refused("11: BAD of a full row", numbers, x -> x.into(0, -4), ExactShares.BAD);
            refused("11: BAD of an empty row", numbers, x -> x.into(2, 1000001), ExactShares.BAD);
            refused("15: ZERO", numbers, x -> x.seats(2, 5, 1), ExactShares.ZERO);
            refused("15: BAD", numbers, x -> x.seats(3, 2001, 1), ExactShares.BAD);
            refused("19: NONE", numbers, x -> x.test(3, 2), ExactShares.NONE);
            refused("19: BAD", numbers, x -> x.test(3, 3), ExactShares.BAD);
        }
        refused("2: FULL", 40, x -> x.value(1, 3), ExactShares.FULL);
        refused("4: FULL", 40, x -> x.over(0, 39), ExactShares.FULL);
        refused("14: FULL", 40, x -> x.share(3, 0), ExactShares.FULL);
        refused("19: FULL", 40, x -> x.test(3, 0), ExactShares.FULL);
    }
}
