/** The terms: NUMBERS, 40 at most. Each call that makes one still makes the 40th, and is refused the 41st. */
public final class FullTest {
    public static void main(String[] args) {
        fortieth();
        fortyFirst();
        emptyUntilFullAndBack();
        Due.end();
    }

    private static void makesLast(String name, Edge.Call call, long u, long v) {
        Edge.makes("terms: 40 at most, the 40th by " + name, Edge::nearlyFull, call, u, v);
    }

    private static void fortieth() {
        makesLast("value", x -> x.value(6, -4), -3, 2);
        makesLast("act 0", x -> x.act(0, Edge.HALF, Edge.MINUS), -1, 4);
        makesLast("act 1", x -> x.act(1, Edge.HALF, Edge.MINUS), 5, 4);
        makesLast("act 2", x -> x.act(2, Edge.HALF, Edge.MINUS), -3, 8);
        makesLast("act 3", x -> x.act(3, Edge.HALF, Edge.MINUS), -2, 3);
        makesLast("over", x -> x.over(Edge.HALF, Edge.MINUS), -2, 3);
        makesLast("simplest", x -> x.simplest(Edge.HALF, Edge.LAST), 1, 2);
        makesLast("simplest, 0", x -> x.simplest(Edge.HALF, Edge.MINUS), 0, 1);
        makesLast("simplest, below 0", x -> x.simplest(Edge.MINUS, Edge.MINUS), -3, 4);
        makesLast("near, itself", x -> x.near(Edge.LAST, 10), 3, 10);
        makesLast("near, another", x -> x.near(Edge.LAST, 9), 2, 7);
        makesLast("share", x -> x.share(Edge.TWO, 0), 5, 8);
        makesLast("tail", x -> x.tail(2, 1, Edge.HALF), 3, 4);
        makesLast("urn", x -> x.urn(4, 2, 1, 1), 1, 2);
        makesLast("urn, cannot be", x -> x.urn(4, 2, 1, 2), 0, 1);
        makesLast("test", x -> x.test(Edge.TWO, Edge.THREE), 3, 10);
    }

    private static void refusesMore(String name, Edge.Call call) {
        Edge.keeps("terms: 40 at most, the 41st by " + name, Edge::full, call, ExactShares.FULL);
    }

    private static void fortyFirst() {
        refusesMore("value", x -> x.value(6, -4));
        refusesMore("act 0", x -> x.act(0, Edge.HALF, Edge.MINUS));
        refusesMore("act 1", x -> x.act(1, Edge.HALF, Edge.MINUS));
        refusesMore("act 2", x -> x.act(2, Edge.HALF, Edge.MINUS));
        refusesMore("act 3", x -> x.act(3, Edge.HALF, Edge.MINUS));
        refusesMore("over", x -> x.over(Edge.HALF, Edge.MINUS));
        refusesMore("simplest", x -> x.simplest(Edge.HALF, Edge.LAST));
        refusesMore("simplest, 0", x -> x.simplest(Edge.HALF, Edge.MINUS));
        refusesMore("simplest, below 0", x -> x.simplest(Edge.MINUS, Edge.MINUS));
        refusesMore("simplest, the last number", x -> x.simplest(39, 39));
        refusesMore("near, itself", x -> x.near(Edge.LAST, 10));
        refusesMore("near, another", x -> x.near(Edge.LAST, 9));
        refusesMore("share", x -> x.share(Edge.TWO, 0));
        refusesMore("tail", x -> x.tail(2, 1, Edge.HALF));
        refusesMore("urn", x -> x.urn(4, 2, 1, 1));
        refusesMore("urn, cannot be", x -> x.urn(4, 2, 1, 2));
        refusesMore("test", x -> x.test(Edge.THREE, Edge.TWO));
    }

    /** The calls that make no number go on when there are 40. */
    private static void emptyUntilFullAndBack() {
        ExactShares x = new ExactShares();
        for (int a = 0; a < 40; a++) {
            Due.is("terms: 40 at most, value " + a, x.value(a, 1), a);
        }
        Due.is("terms: 40 at most, one more", x.value(40, 1), ExactShares.FULL);
        for (int a = 0; a < 40; a++) {
            Due.number(x, a, a, 1);
        }
        Due.is("full: into", x.into(0, 9), 1);
        Due.is("full: seats", x.seats(0, 3, 0), 1);
        Due.is("full: given", x.given(0), 3);
        Due.is("full: empty", x.empty(0), 1);
        Due.is("full: order", x.order(39, 38), 1);
        Due.is("full: cut", x.cut(39, 1, true), 390);
        Due.is("full: drop", x.drop(), 39);
        Due.is("room again", x.value(-1, 1), 39);
        Due.number(x, 39, -1, 1);
        Due.is("and full again", x.value(-1, 1), ExactShares.FULL);
        for (int left = 39; left >= 0; left--) {
            Due.is("drop", x.drop(), left);
        }
        Due.is("drop of none", x.drop(), ExactShares.NONE);
        Due.is("the first again", x.value(5, 1), 0);
    }
}
