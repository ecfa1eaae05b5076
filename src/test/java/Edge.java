import java.util.function.Supplier;

/**
 * Boundary cases, each call on an object of its own. What the call changed is told by a twin: an object made
 * likewise that did not get the call. No object gets more than 512 calls, beyond which nothing is promised.
 */
final class Edge {
    /** Stands for the answer of a call that throws ArithmeticException. */
    static final long THROWN = 777_777_777_777L;

    static final long MAX = Long.MAX_VALUE;

    /** The numbers of some() by their index, and the index that the next one gets. */
    static final int HALF = 0, NOUGHT = 1, GREATEST = 2, MINUS = 3, LEAST = 4, ABOVE_ONE = 5, LAST = 6, NEXT = 7;

    /** The rows of some() by their index. */
    static final int TWO = 0, THREE = 1, NOUGHTS = 2, EMPTY = 3;

    /** What is no index of a row, a number or a value, whatever the object holds. */
    static final int[] NEVER = {Integer.MIN_VALUE, -2, -1, 40, 41, Integer.MAX_VALUE};

    interface Call {
        long on(ExactShares x);
    }

    private Edge() {
    }

    /** An object on which every call has something to change: seven numbers, three rows, seats, a test, one GREW. */
    static ExactShares some() {
        ExactShares x = Due.with(1, 2, 0, 1, MAX, 1, -3, 4, 1, MAX, 3, 2);
        Due.row(x, TWO, 5, 3);
        Due.row(x, THREE, 2, 2, 5);
        Due.row(x, NOUGHTS, 0, 0);
        x.seats(TWO, 4, 1);
        x.test(TWO, THREE);
        x.act(0, GREATEST, GREATEST);
        return x;
    }

    /** The same with 39 numbers: one more is taken. */
    static ExactShares nearlyFull() {
        ExactShares x = some();
        Due.fill(x);
        x.drop();
        return x;
    }

    /** The same with 40 numbers. */
    static ExactShares full() {
        ExactShares x = some();
        Due.fill(x);
        return x;
    }

    /** The answer is due, and nothing is changed: the call is refused, or it only tells something. */
    static void keeps(String sentence, Supplier<ExactShares> object, Call call, long due) {
        ExactShares x = object.get();
        ExactShares twin = object.get();
        Due.is(sentence, answer(x, call), due);
        Due.is(sentence + ": how often GREW", x.count(5), twin.count(5));
        Due.same(sentence + ": what can be seen", seen(x), seen(twin));
    }

    /** GREW is answered and counted, and nothing else is changed. */
    static void grew(String sentence, Supplier<ExactShares> object, Call call) {
        ExactShares x = object.get();
        ExactShares twin = object.get();
        Due.is(sentence, answer(x, call), ExactShares.GREW);
        Due.is(sentence + ": how often GREW", x.count(5), twin.count(5) + 1);
        Due.same(sentence + ": what can be seen", seen(x), seen(twin));
    }

    /** The call makes the next number, and it is u / v; once that is dropped, nothing else is changed. */
    static void makes(String sentence, Supplier<ExactShares> object, Call call, long u, long v) {
        ExactShares x = object.get();
        ExactShares twin = object.get();
        int next = x.count(0);
        Due.is(sentence, answer(x, call), next);
        Due.is(sentence + ": numbers", x.count(0), next + 1);
        Due.number(x, next, u, v);
        x.drop();
        Due.is(sentence + ": how often GREW", x.count(5), twin.count(5));
        Due.same(sentence + ": all else", seen(x), seen(twin));
    }

    static long answer(ExactShares x, Call call) {
        try {
            return call.on(x);
        } catch (ArithmeticException e) {
            Due.is("the machine itself divided by 0", "/ by zero".equals(e.getMessage()) ? 1 : 0, 0);
            return THROWN;
        }
    }

    /** All that can be seen of an object but for how often GREW was answered, by at most 140 calls. */
    static String seen(ExactShares x) {
        StringBuilder text = new StringBuilder(numbersOf(x));
        for (int row = 0; row < 4; row++) {
            text.append(", ").append(rowOf(x, row));
        }
        return text.append(", ").append(givenOf(x)).append(", ").append(waysOf(x)).toString();
    }

    static String numbersOf(ExactShares x) {
        StringBuilder text = new StringBuilder("numbers");
        int numbers = x.count(0);
        for (int a = 0; a <= numbers; a++) {
            text.append(a < numbers ? " " : ", then ").append(x.part(a, 0)).append('/').append(x.part(a, 1));
        }
        return text.toString();
    }

    static String rowOf(ExactShares x, int row) {
        StringBuilder text = new StringBuilder("row of ").append(x.count(row + 1));
        for (int k = 0; k <= 8; k++) {
            text.append(' ').append(x.at(row, k));
        }
        return text.toString();
    }

    static String givenOf(ExactShares x) {
        StringBuilder text = new StringBuilder("given");
        for (int k = 0; k <= 8; k++) {
            text.append(' ').append(x.given(k));
        }
        return text.toString();
    }

    static String waysOf(ExactShares x) {
        return "ways " + x.ways(0) + " " + x.ways(1) + " " + x.ways(2);
    }
}
