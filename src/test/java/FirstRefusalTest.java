import java.util.function.Supplier;

/** The terms: of several refusals the first that a call names counts. Each pair that can meet, call by call. */
public final class FirstRefusalTest {
    private static final long MAX = Long.MAX_VALUE, MIN = Long.MIN_VALUE;
    private static final int BAD = ExactShares.BAD, ZERO = ExactShares.ZERO, GREW = ExactShares.GREW;
    private static final int FULL = ExactShares.FULL, NONE = ExactShares.NONE;

    public static void main(String[] args) {
        value();
        act();
        over();
        simplestAndNear();
        into();
        share();
        seats();
        tail();
        urn();
        test();
        ways();
        Due.end();
    }

    private static void some(String what, Edge.Call call, long due) {
        Edge.keeps("first refusal: " + what, Edge::some, call, due);
    }

    private static void full(String what, Edge.Call call, long due) {
        Edge.keeps("first refusal: " + what, Edge::full, call, due);
    }

    private static void value() {
        some("value: ZERO before GREW", x -> x.value(MIN, 0), ZERO);
        full("value: ZERO before FULL", x -> x.value(1, 0), ZERO);
        full("value: ZERO before GREW and FULL", x -> x.value(MIN, 0), ZERO);
        full("value: GREW before FULL, u", x -> x.value(MIN, 1), GREW);
        full("value: GREW before FULL, v", x -> x.value(1, MIN), GREW);
        full("value: FULL", x -> x.value(-MAX, -MAX), FULL);
    }

    private static void act() {
        some("act: BAD before ZERO, op", x -> x.act(4, Edge.HALF, Edge.NOUGHT), BAD);
        some("act: BAD before ZERO, a", x -> x.act(3, Edge.NEXT, Edge.NOUGHT), BAD);
        some("act: BAD before GREW, op", x -> x.act(-1, Edge.GREATEST, Edge.GREATEST), BAD);
        for (int op = 0; op <= 3; op++) {
            int o = op;
            full("act: BAD before FULL, a, op " + o, x -> x.act(o, 40, Edge.HALF), BAD);
            full("act: BAD before FULL, b, op " + o, x -> x.act(o, Edge.HALF, -1), BAD);
            full("act: FULL, op " + o, x -> x.act(o, Edge.HALF, Edge.HALF), FULL);
        }
        full("act: BAD before FULL, op 4", x -> x.act(4, Edge.HALF, Edge.HALF), BAD);
        full("act: BAD before FULL, op -1", x -> x.act(-1, Edge.HALF, Edge.HALF), BAD);
        full("act: BAD before FULL and ZERO", x -> x.act(3, -1, Edge.NOUGHT), BAD);
        full("act: BAD before FULL and GREW", x -> x.act(4, Edge.GREATEST, Edge.GREATEST), BAD);
        full("act: FULL before ZERO", x -> x.act(3, Edge.HALF, Edge.NOUGHT), FULL);
        full("act: FULL before GREW, op 0", x -> x.act(0, Edge.GREATEST, Edge.GREATEST), FULL);
        full("act: FULL before GREW, op 1", x -> x.act(1, Edge.GREATEST, Edge.MINUS), FULL);
        full("act: FULL before GREW, op 2", x -> x.act(2, Edge.LEAST, Edge.LEAST), FULL);
        full("act: FULL before GREW, op 3", x -> x.act(3, Edge.GREATEST, Edge.LEAST), FULL);
        Edge.keeps("act: ZERO of the 40th", Edge::nearlyFull, x -> x.act(3, Edge.HALF, Edge.NOUGHT), ZERO);
        Edge.grew("act: GREW of the 40th, op 0", Edge::nearlyFull, x -> x.act(0, Edge.GREATEST, Edge.GREATEST));
        Edge.grew("act: GREW of the 40th, op 1", Edge::nearlyFull, x -> x.act(1, Edge.GREATEST, Edge.MINUS));
        Edge.grew("act: GREW of the 40th, op 2", Edge::nearlyFull, x -> x.act(2, Edge.LEAST, Edge.LEAST));
        Edge.grew("act: GREW of the 40th, op 3", Edge::nearlyFull, x -> x.act(3, Edge.GREATEST, Edge.LEAST));
    }

    private static void over() {
        some("over: BAD before b is 0", x -> x.over(Edge.NEXT, Edge.NOUGHT), BAD);
        full("over: BAD before FULL, a", x -> x.over(40, Edge.HALF), BAD);
        full("over: BAD before FULL, b", x -> x.over(Edge.HALF, -1), BAD);
        full("over: BAD before FULL and b is 0", x -> x.over(40, Edge.NOUGHT), BAD);
        full("over: FULL", x -> x.over(Edge.HALF, Edge.HALF), FULL);
        full("over: FULL before b is 0", x -> x.over(Edge.HALF, Edge.NOUGHT), FULL);
        full("over: FULL before GREW", x -> x.over(Edge.GREATEST, Edge.LEAST), FULL);
        Edge.keeps("over: b is 0, of the 40th", Edge::nearlyFull, x -> x.over(Edge.HALF, Edge.NOUGHT), Edge.THROWN);
        Edge.grew("over: GREW of the 40th", Edge::nearlyFull, x -> x.over(Edge.GREATEST, Edge.LEAST));
    }

    private static void simplestAndNear() {
        full("simplest: BAD before FULL, a", x -> x.simplest(40, Edge.HALF), BAD);
        full("simplest: BAD before FULL, b", x -> x.simplest(Edge.HALF, -1), BAD);
        full("near: BAD before FULL, no NUMBER", x -> x.near(40, 5), BAD);
        full("near: BAD before FULL, the bound is 0", x -> x.near(Edge.HALF, 0), BAD);
        full("near: BAD before FULL, the bound is 1,000,001", x -> x.near(Edge.HALF, 1000001), BAD);
    }

    private static void into() {
        Supplier<ExactShares> fullRow = () -> {
            ExactShares x = new ExactShares();
            Due.row(x, 1, 1, 2, 3, 4, 5, 6, 7, 8);
            return x;
        };
        Edge.keeps("first refusal: into: BAD before FULL, -1", fullRow, x -> x.into(1, -1), BAD);
        Edge.keeps("first refusal: into: BAD before FULL, 1,000,001", fullRow, x -> x.into(1, 1000001), BAD);
        Edge.keeps("first refusal: into: FULL", fullRow, x -> x.into(1, 1000000), FULL);
        Edge.keeps("first refusal: into: BAD twice", fullRow, x -> x.into(4, -1), BAD);
    }

    private static void share() {
        some("share: BAD before a sum of 0, no VALUE", x -> x.share(Edge.NOUGHTS, 2), BAD);
        some("share: BAD before a sum of 0, -1", x -> x.share(Edge.NOUGHTS, -1), BAD);
        some("share: BAD before a sum of 0, an empty row", x -> x.share(Edge.EMPTY, 0), BAD);
        full("share: BAD before FULL, no ROW", x -> x.share(4, 0), BAD);
        full("share: BAD before FULL, no VALUE", x -> x.share(Edge.TWO, 2), BAD);
        full("share: BAD before FULL and a sum of 0", x -> x.share(Edge.NOUGHTS, 2), BAD);
        full("share: FULL", x -> x.share(Edge.TWO, 0), FULL);
        full("share: FULL before a sum of 0", x -> x.share(Edge.NOUGHTS, 0), FULL);
        Edge.keeps("share: a sum of 0, of the 40th", Edge::nearlyFull, x -> x.share(Edge.NOUGHTS, 0), Edge.THROWN);
    }

    private static void seats() {
        for (int row : new int[] {Edge.NOUGHTS, Edge.EMPTY}) {
            some("seats: BAD before ZERO, n is -1, row " + row, x -> x.seats(row, -1, 0), BAD);
            some("seats: BAD before ZERO, n is 2,001, row " + row, x -> x.seats(row, 2001, 1), BAD);
            some("seats: BAD before ZERO, way -1, row " + row, x -> x.seats(row, 5, -1), BAD);
            some("seats: BAD before ZERO, way 3, row " + row, x -> x.seats(row, 5, 3), BAD);
        }
        some("seats: BAD of all three", x -> x.seats(4, 2001, 3), BAD);
        full("seats: ZERO, and FULL is none of its", x -> x.seats(Edge.NOUGHTS, 5, 0), ZERO);
    }

    private static void tail() {
        some("tail: BAD before NONE, n is 61", x -> x.tail(61, 1, Edge.ABOVE_ONE), BAD);
        some("tail: BAD before NONE, n is -1", x -> x.tail(-1, 1, Edge.MINUS), BAD);
        some("tail: BAD before GREW", x -> x.tail(61, 1, Edge.LEAST), BAD);
        some("tail: NONE before GREW, below 0", x -> x.tail(60, 1, Edge.MINUS), NONE);
        Edge.keeps("tail: NONE before GREW, above 1", () -> Due.with(MAX, MAX - 1), x -> x.tail(2, 1, 0), NONE);
        full("tail: BAD before FULL, n is 61", x -> x.tail(61, 1, Edge.HALF), BAD);
        full("tail: BAD before FULL, n is -1", x -> x.tail(-1, 1, Edge.HALF), BAD);
        full("tail: BAD before FULL, no NUMBER", x -> x.tail(3, 1, 40), BAD);
        full("tail: NONE before FULL, above 1", x -> x.tail(3, 1, Edge.ABOVE_ONE), NONE);
        full("tail: NONE before FULL, below 0", x -> x.tail(3, 1, Edge.MINUS), NONE);
        full("tail: NONE before FULL and GREW", x -> x.tail(60, 1, Edge.MINUS), NONE);
        full("tail: FULL", x -> x.tail(3, 1, Edge.HALF), FULL);
        full("tail: FULL before GREW", x -> x.tail(2, 1, Edge.LEAST), FULL);
        Edge.keeps("tail: GREW of the 40th", Edge::nearlyFull, x -> x.tail(2, 1, Edge.LEAST), GREW);
    }

    private static void urn() {
        full("urn: BAD before FULL, all is 61", x -> x.urn(61, 1, 1, 1), BAD);
        full("urn: BAD before FULL, all is -1", x -> x.urn(-1, 0, 0, 0), BAD);
        full("urn: BAD before FULL, good", x -> x.urn(5, 6, 1, 1), BAD);
        full("urn: BAD before FULL, good is -1", x -> x.urn(5, -1, 1, 1), BAD);
        full("urn: BAD before FULL, drawn", x -> x.urn(5, 1, 6, 1), BAD);
        full("urn: BAD before FULL, drawn is -1", x -> x.urn(5, 1, -1, 1), BAD);
        full("urn: FULL where it cannot be", x -> x.urn(5, 1, 1, -1), FULL);
    }

    private static void test() {
        some("test: BAD before NONE, no ROW and an empty one", x -> x.test(4, Edge.EMPTY), BAD);
        some("test: BAD before NONE, an empty one and no ROW", x -> x.test(Edge.EMPTY, -1), BAD);
        some("test: BAD before NONE, an empty one alone", x -> x.test(Edge.EMPTY, Edge.EMPTY), BAD);
        full("test: BAD before FULL, no ROW", x -> x.test(Edge.TWO, 4), BAD);
        full("test: BAD before FULL, one alone", x -> x.test(Edge.TWO, Edge.TWO), BAD);
        full("test: BAD before NONE and FULL", x -> x.test(Edge.EMPTY, Edge.EMPTY), BAD);
        full("test: NONE before FULL, b", x -> x.test(Edge.TWO, Edge.EMPTY), NONE);
        full("test: NONE before FULL, a", x -> x.test(Edge.EMPTY, Edge.TWO), NONE);
        full("test: FULL", x -> x.test(Edge.THREE, Edge.TWO), FULL);
    }

    private static void ways() {
        for (int what : new int[] {Integer.MIN_VALUE, -1, 3, Integer.MAX_VALUE}) {
            Edge.keeps("first refusal: ways: NONE before BAD, " + what, ExactShares::new, x -> x.ways(what), NONE);
        }
    }
}
