/** Promises 1 to 10. */
public final class NumbersTest {
    private static final long MAX = Long.MAX_VALUE;
    private static final long MIN = Long.MIN_VALUE;
    private static final int BAD = ExactShares.BAD, ZERO = ExactShares.ZERO, GREW = ExactShares.GREW;
    private static final int FULL = ExactShares.FULL, NONE = ExactShares.NONE;
    private static final long NOTHING = ExactShares.NOTHING;

    public static void main(String[] args) {
        newObject();
        value();
        sums();
        products();
        quotients();
        actRefusals();
        over();
        drop();
        order();
        part();
        simplest();
        near();
        nearTies();
        cut();
        Due.end();
    }

    private static void newObject() {
        ExactShares x = new ExactShares();
        for (int what = 0; what <= 5; what++) {
            Due.is("new: count(" + what + ")", x.count(what), 0);
        }
        Due.is("new: drop()", x.drop(), NONE);
        Due.is("new: part", x.part(0, 0), NOTHING);
        Due.is("new: at", x.at(0, 0), -1);
        Due.is("new: given", x.given(0), NONE);
        Due.is("new: ways", x.ways(0), NONE);
        Due.is("first number", x.value(5, 7), 0);
        Due.is("another object has its own numbers", new ExactShares().count(0), 0);
    }

    private static void value() {
        ExactShares x = new ExactShares();
        Due.made("6/4", x, x.value(6, 4), 3, 2);
        Due.made("6/-4", x, x.value(6, -4), -3, 2);
        Due.made("-6/-4", x, x.value(-6, -4), 3, 2);
        Due.made("0/-9", x, x.value(0, -9), 0, 1);
        Due.made("MAX/1", x, x.value(MAX, 1), MAX, 1);
        Due.made("-MAX/1", x, x.value(-MAX, 1), -MAX, 1);
        Due.made("1/-MAX", x, x.value(1, -MAX), -1, MAX);
        Due.made("MAX/-MAX", x, x.value(MAX, -MAX), -1, 1);
        Due.made("Fibonacci", x, x.value(7540113804746346429L, 4660046610375530309L),
            7540113804746346429L, 4660046610375530309L);
        int before = x.count(0);
        Due.is("1/0", x.value(1, 0), ZERO);
        Due.is("0/0", x.value(0, 0), ZERO);
        Due.is("MIN/0", x.value(MIN, 0), ZERO);
        Due.is("MIN/2", x.value(MIN, 2), GREW);
        Due.is("MIN/MIN", x.value(MIN, MIN), GREW);
        Due.is("0/MIN", x.value(0, MIN), GREW);
        Due.is("refused changes nothing", x.count(0), before);
        Due.is("GREW of value() is not counted", x.count(5), 0);
        Due.fill(x);
        Due.is("full", x.count(0), 40);
        Due.is("the 41st", x.value(1, 2), FULL);
        Due.is("ZERO before FULL", x.value(1, 0), ZERO);
        Due.is("GREW before FULL", x.value(MIN, 1), GREW);
        Due.is("still 40", x.count(0), 40);
        Due.number(x, 39, 7, 3);
    }

    private static void sums() {
        ExactShares x = Due.with(1, 6, 1, 10, -1, 6, MAX, 1, -MAX, 1, 1, 1, -1, 1, 0, 1);
        Due.made("1/6 + 1/10", x, x.act(0, 0, 1), 4, 15);
        Due.made("1/6 - 1/10", x, x.act(1, 0, 1), 1, 15);
        Due.made("1/10 - 1/6", x, x.act(1, 1, 0), -1, 15);
        Due.made("1/6 + -1/6", x, x.act(0, 0, 2), 0, 1);
        Due.made("MAX - 1", x, x.act(1, 3, 5), MAX - 1, 1);
        Due.made("MAX + -MAX", x, x.act(0, 3, 4), 0, 1);
        Due.made("MAX + 0", x, x.act(0, 3, 7), MAX, 1);
        Due.made("0 - MAX", x, x.act(1, 7, 3), -MAX, 1);
        Due.is("MAX + 1", x.act(0, 3, 5), GREW);
        Due.is("-MAX - 1 is -2^63, wide", x.act(1, 4, 5), GREW);
        Due.is("-MAX + -1", x.act(0, 4, 6), GREW);
        Due.is("-MAX - MAX", x.act(1, 4, 3), GREW);
        Due.is("MAX + MAX", x.act(0, 3, 3), GREW);
        Due.is("five grew", x.count(5), 5);

        // each of the four that must not be wide, by itself
        ExactShares y = Due.with(MAX, 3, 1, 2, MAX, 2, MAX, 4, 1, 1L << 32, 1, (1L << 32) + 1, -MAX, 4);
        Due.is("a (d / g) is wide", y.act(0, 0, 1), GREW);
        Due.is("c (b / g) is wide", y.act(0, 1, 0), GREW);
        Due.is("together wide though the fraction is not", y.act(0, 2, 2), GREW);
        Due.is("b (d / g) is wide", y.act(0, 4, 5), GREW);
        Due.is("a (d / g) is wide, of a difference", y.act(1, 2, 3), GREW);
        Due.is("wide on the way though the sum is 0", y.act(0, 0, 0), GREW);
        Due.made("MAX/4 + -MAX/4", y, y.act(0, 3, 6), 0, 1);
        Due.made("MAX/4 - MAX/4", y, y.act(1, 3, 3), 0, 1);
        Due.is("six grew", y.count(5), 6);
    }

    private static void products() {
        ExactShares x = Due.with(1, 6, 1, 10, 4, 9, 3, 2, 0, 1, MAX, 2, 2, MAX, -4, 3, 1L << 62, 1, -2, 1,
            MAX, 1, 1, MAX);
        Due.made("1/6 * 1/10", x, x.act(2, 0, 1), 1, 60);
        Due.made("4/9 * 3/2", x, x.act(2, 2, 3), 2, 3);
        Due.made("0 * MAX/2", x, x.act(2, 4, 5), 0, 1);
        Due.made("2/MAX * 0", x, x.act(2, 6, 4), 0, 1);
        Due.made("MAX/2 * 2/MAX", x, x.act(2, 5, 6), 1, 1);
        Due.made("-4/3 * 3/2", x, x.act(2, 7, 3), -2, 1);
        Due.made("-4/3 * -4/3", x, x.act(2, 7, 7), 16, 9);
        Due.is("2^62 * -2 is -2^63, wide", x.act(2, 8, 9), GREW);
        Due.is("MAX * MAX", x.act(2, 10, 10), GREW);
        Due.is("below times below", x.act(2, 11, 11), GREW);
        Due.is("three grew", x.count(5), 3);
    }

    private static void quotients() {
        ExactShares x = Due.with(1, 6, -3, 4, 0, 1, MAX, 1, 1, MAX, -1, MAX, 3, 7);
        Due.made("1/6 / -3/4", x, x.act(3, 0, 1), -2, 9);
        Due.made("-3/4 / 1/6", x, x.act(3, 1, 0), -9, 2);
        Due.made("-3/4 / -3/4", x, x.act(3, 1, 1), 1, 1);
        Due.made("0 / -3/4", x, x.act(3, 2, 1), 0, 1);
        Due.made("MAX / MAX", x, x.act(3, 3, 3), 1, 1);
        Due.made("1/MAX / 1/MAX", x, x.act(3, 4, 4), 1, 1);
        Due.made("1/MAX / -1/MAX", x, x.act(3, 4, 5), -1, 1);
        Due.is("MAX / 1/MAX", x.act(3, 3, 4), GREW);
        Due.is("1/MAX / MAX", x.act(3, 4, 3), GREW);
        Due.is("1/6 / 0", x.act(3, 0, 2), ZERO);
        Due.is("0 / 0", x.act(3, 2, 2), ZERO);
        Due.made("0 is allowed to be added", x, x.act(0, 6, 2), 3, 7);
        Due.is("two grew", x.count(5), 2);
    }

    private static void actRefusals() {
        ExactShares x = Due.with(1, 2, 0, 1, MAX, 1);
        Due.is("op 4", x.act(4, 0, 0), BAD);
        Due.is("op -1", x.act(-1, 0, 0), BAD);
        Due.is("no first", x.act(0, 3, 0), BAD);
        Due.is("no second", x.act(0, 0, 3), BAD);
        Due.is("negative", x.act(0, -1, 0), BAD);
        Due.is("far", x.act(3, Integer.MAX_VALUE, Integer.MIN_VALUE), BAD);
        Due.is("nothing changed", x.count(0), 3);
        Due.fill(x);
        Due.is("BAD before FULL", x.act(4, 0, 0), BAD);
        Due.is("BAD before FULL, number 40", x.act(0, 40, 0), BAD);
        Due.is("FULL", x.act(0, 0, 0), FULL);
        Due.is("FULL before ZERO", x.act(3, 0, 1), FULL);
        Due.is("FULL before GREW", x.act(0, 2, 2), FULL);
        Due.is("GREW was not answered", x.count(5), 0);
        x.drop();
        Due.is("ZERO with room", x.act(3, 0, 1), ZERO);
        Due.is("GREW with room", x.act(0, 2, 2), GREW);
        Due.made("the 40th", x, x.act(0, 0, 0), 1, 1);
    }

    private static void over() {
        ExactShares x = Due.with(1, 6, -3, 4, 0, 1, MAX, 1, 1, 2);
        Due.made("1/6 over -3/4", x, x.over(0, 1), -2, 9);
        Due.made("0 over 1/6", x, x.over(2, 0), 0, 1);
        Due.overThrows(x, 0, 2);
        Due.overThrows(x, 2, 2);
        Due.is("no number of a thrown call", x.count(0), 7);
        Due.is("MAX over 1/2", x.over(3, 4), GREW);
        Due.is("grew by over()", x.count(5), 1);
        Due.is("no number 7", x.over(7, 0), BAD);
        Due.is("no number -1", x.over(0, -1), BAD);
        Due.fill(x);
        Due.is("FULL before 0", x.over(0, 2), FULL);
        Due.is("FULL before GREW", x.over(3, 4), FULL);
        Due.is("BAD before FULL", x.over(0, 40), BAD);
        Due.is("grew still", x.count(5), 1);
    }

    private static void drop() {
        ExactShares x = Due.with(1, 2, 3, 4);
        Due.is("drop", x.drop(), 1);
        Due.is("dropped", x.part(1, 0), NOTHING);
        Due.number(x, 0, 1, 2);
        Due.is("drop the first", x.drop(), 0);
        Due.is("none", x.drop(), NONE);
        Due.is("none again", x.drop(), NONE);
        Due.made("after none", x, x.value(5, 3), 5, 3);
        Due.fill(x);
        Due.is("drop of 40", x.drop(), 39);
        Due.made("room again", x, x.value(9, 4), 9, 4);
    }

    private static void order() {
        ExactShares x = Due.with(1, 2, 1, 3, -1, 2, -1, 3, 0, 1, MAX - 1, MAX, MAX - 2, MAX - 1, -(MAX - 1), MAX,
            -(MAX - 2), MAX - 1, MAX, 1, -MAX, 1, 1, MAX, 2, 4, 5, 2, 2, 1);
        Due.is("1/2 : 1/3", x.order(0, 1), 1);
        Due.is("1/3 : 1/2", x.order(1, 0), -1);
        Due.is("-1/2 : -1/3", x.order(2, 3), -1);
        Due.is("-1/3 : -1/2", x.order(3, 2), 1);
        Due.is("1/2 : 2/4", x.order(0, 12), 0);
        Due.is("0 : 0", x.order(4, 4), 0);
        Due.is("0 : -1/2", x.order(4, 2), 1);
        Due.is("0 : 1/MAX", x.order(4, 11), -1);
        Due.is("wide cross products", x.order(5, 6), 1);
        Due.is("wide cross products, turned", x.order(6, 5), -1);
        Due.is("wide, negative", x.order(7, 8), -1);
        Due.is("wide, negative, turned", x.order(8, 7), 1);
        Due.is("wide, same", x.order(5, 5), 0);
        Due.is("MAX : -MAX", x.order(9, 10), 1);
        Due.is("-MAX : MAX", x.order(10, 9), -1);
        Due.is("5/2 : 2", x.order(13, 14), 1);
        Due.is("2 : 5/2", x.order(14, 13), -1);
        Due.is("no first", x.order(15, 0), -2);
        Due.is("no second", x.order(0, 15), -2);
        Due.is("negative", x.order(-1, 0), -2);
        Due.is("no number was made", x.count(0), 15);
    }

    private static void part() {
        ExactShares x = Due.with(-10, 4);
        Due.number(x, 0, -5, 2);
        Due.is("which 2", x.part(0, 2), NOTHING);
        Due.is("which -1", x.part(0, -1), NOTHING);
        Due.is("number 1", x.part(1, 0), NOTHING);
        Due.is("number -1", x.part(-1, 1), NOTHING);
        Due.is("far number", x.part(Integer.MAX_VALUE, 0), NOTHING);
    }

    private static void simplest(String what, long a, long b, long c, long d, long u, long v) {
        ExactShares x = Due.with(a, b, c, d);
        Due.made("simplest " + what, x, x.simplest(0, 1), u, v);
        Due.made("simplest turned " + what, x, x.simplest(1, 0), u, v);
    }

    private static void simplest() {
        simplest("3/10 4/10", 3, 10, 4, 10, 1, 3);
        simplest("the same", 3, 10, 3, 10, 3, 10);
        simplest("the same, negative", -22, 7, -22, 7, -22, 7);
        simplest("round 0", -7, 10, 3, 10, 0, 1);
        simplest("0 is the end", 0, 1, 9, 4, 0, 1);
        simplest("0 is the upper end", -9, 4, 0, 1, 0, 1);
        simplest("whole ones", 3, 2, 9, 2, 2, 1);
        simplest("whole ones, negative", -9, 2, -3, 2, -2, 1);
        simplest("a whole lower end", 3, 1, 9, 2, 3, 1);
        simplest("a whole upper end", 5, 2, 3, 1, 3, 1);
        simplest("an end", 1, 2, 2, 3, 1, 2);
        simplest("the upper end", 2, 5, 1, 2, 1, 2);
        simplest("pi", 314, 100, 315, 100, 22, 7);
        simplest("pi, negative", -314, 100, -315, 100, -22, 7);
        simplest("wide apart", -Long.MAX_VALUE, 1, MAX, 1, 0, 1);
        simplest("close together", MAX - 1, MAX, MAX - 2, MAX - 1, MAX - 2, MAX - 1);
        simplest("tiny", 1, MAX, 1, MAX - 1, 1, MAX - 1);
        simplest("huge", MAX - 1, 1, MAX, 1, MAX - 1, 1);
        simplest("Fibonacci", 7540113804746346429L, 4660046610375530309L, 7540113804746346429L,
            4660046610375530309L, 7540113804746346429L, 4660046610375530309L);
        simplest("near Fibonacci", 7540113804746346429L, 4660046610375530309L, 1836311903, 1134903170,
            1836311903, 1134903170);

        ExactShares x = Due.with(1, 2, 1, 3);
        Due.is("no number", x.simplest(0, 2), BAD);
        Due.is("no number, first", x.simplest(-1, 0), BAD);
        Due.fill(x);
        Due.is("BAD before FULL", x.simplest(40, 0), BAD);
        Due.is("FULL", x.simplest(0, 1), FULL);
        Due.is("GREW is not its", x.count(5), 0);
    }

    private static void near(String what, long a, long b, int most, long u, long v) {
        ExactShares x = Due.with(a, b);
        Due.made("near " + what + " " + most, x, x.near(0, most), u, v);
    }

    private static void near() {
        near("pi", 314159265358979L, 100000000000000L, 1, 3, 1);
        near("pi", 314159265358979L, 100000000000000L, 7, 22, 7);
        near("pi", 314159265358979L, 100000000000000L, 100, 311, 99);
        near("pi", 314159265358979L, 100000000000000L, 112, 333, 106);
        near("pi", 314159265358979L, 100000000000000L, 113, 355, 113);
        near("-pi", -314159265358979L, 100000000000000L, 100, -311, 99);
        near("itself", 7, 10, 10, 7, 10);
        near("itself, bound above", -7, 10, 1000000, -7, 10);
        near("just below the bound", 7, 10, 9, 5, 7);
        near("0", 0, 1, 1, 0, 1);
        near("tiny", 1, MAX, 1000000, 0, 1);
        near("nearly 1", MAX - 1, MAX, 1000000, 1, 1);
        near("1/1000001", 1, 1000001, 1000000, 1, 1000000);
        near("1/2000000 lies in the middle", 1, 2000000, 1000000, 0, 1);
        near("1/1999999", 1, 1999999, 1000000, 1, 1000000);
        near("pi", 314159265358979L, 100000000000000L, 1000000, 3126535, 995207);
        near("large", MAX, 2, 1, 4611686018427387903L, 1);
        near("large, negative", -MAX, 2, 1, -4611686018427387904L, 1);
        near("large, a third", MAX - 1, 3, 2, 3074457345618258602L, 1);

        ExactShares x = Due.with(1, 3);
        Due.is("bound 0", x.near(0, 0), BAD);
        Due.is("bound -1", x.near(0, -1), BAD);
        Due.is("bound above", x.near(0, 1000001), BAD);
        Due.is("no number", x.near(1, 5), BAD);
        Due.is("no number -1", x.near(-1, 5), BAD);
        Due.is("none made", x.count(0), 1);
        Due.fill(x);
        Due.is("BAD before FULL", x.near(0, 0), BAD);
        Due.is("FULL, itself", x.near(0, 5), FULL);
        Due.is("FULL, another", x.near(0, 2), FULL);
    }

    private static void nearTies() {
        near("of whole ones the lesser", 1, 2, 1, 0, 1);
        near("of whole ones the lesser, negative", -1, 2, 1, -1, 1);
        near("of whole ones the lesser, above", 7, 2, 1, 3, 1);
        near("lesser lower part below", 1, 4, 2, 0, 1);
        near("lesser lower part above", 3, 4, 2, 1, 1);
        near("lesser lower part, negative", -1, 4, 2, 0, 1);
        near("lesser lower part, negative, below", -3, 4, 2, -1, 1);
        near("5/12 lies between 1/3 and 1/2", 5, 12, 3, 1, 2);
        near("7/12 lies between 1/2 and 2/3", 7, 12, 3, 1, 2);
    }

    private static void cut() {
        ExactShares x = Due.with(-1, 2, 1, 3, 2, 3, 5, 1, 0, 1, MAX, 1, -MAX, 1, 9223, 7, 9224, 7, -9223, 7, -9224, 7,
            -MAX, 2);
        Due.is("-1/2", x.cut(0, 0, false), -1);
        Due.is("-1/2 up", x.cut(0, 0, true), 0);
        Due.is("-1/2, 1", x.cut(0, 1, false), -5);
        Due.is("-1/2, 1 up", x.cut(0, 1, true), -5);
        Due.is("1/3, 4", x.cut(1, 4, false), 3333);
        Due.is("1/3, 4 up", x.cut(1, 4, true), 3334);
        Due.is("2/3, 15", x.cut(2, 15, false), 666666666666666L);
        Due.is("2/3, 15 up", x.cut(2, 15, true), 666666666666667L);
        Due.is("5, 0", x.cut(3, 0, false), 5);
        Due.is("5, 0 up", x.cut(3, 0, true), 5);
        Due.is("0, 15 up", x.cut(4, 15, true), 0);
        Due.is("MAX", x.cut(5, 0, false), MAX);
        Due.is("MAX up", x.cut(5, 0, true), MAX);
        Due.is("-MAX", x.cut(6, 0, false), -MAX);
        Due.is("-MAX up", x.cut(6, 0, true), -MAX);
        Due.is("MAX, 1", x.cut(5, 1, false), NOTHING);
        Due.is("9223/7, 15", x.cut(7, 15, false), 1317571428571428571L);
        Due.is("9224/7, 15 is wide on the way", x.cut(8, 15, false), NOTHING);
        Due.is("-9223/7, 15", x.cut(9, 15, false), -1317571428571428572L);
        Due.is("-9223/7, 15 up", x.cut(9, 15, true), -1317571428571428571L);
        Due.is("-9224/7, 15", x.cut(10, 15, true), NOTHING);
        Due.is("-MAX/2", x.cut(11, 0, false), -(1L << 62));
        Due.is("-MAX/2 up", x.cut(11, 0, true), 1 - (1L << 62));
        Due.is("digits -1", x.cut(0, -1, false), NOTHING);
        Due.is("digits 16", x.cut(4, 16, false), NOTHING);
        Due.is("no number", x.cut(12, 0, false), NOTHING);
        Due.is("no number -1", x.cut(-1, 0, true), NOTHING);
        Due.is("no number was made", x.count(0), 12);
    }
}
