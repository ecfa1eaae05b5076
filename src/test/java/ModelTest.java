import java.util.Random;

/** Runs of at most 512 calls with drawn arguments, the same every time: each answer is the model's. */
public final class ModelTest {
    private static final int RUNS = 1000;
    /** Of 512 calls those that the look at all of the object in the end leaves, and one step at most. */
    private static final int CALLS = 512 - 136 - 3;
    private static final long[] EDGES = {0, 1, 2, 3, 7, 10, 1000000, 1L << 31, 3037000499L, 3037000500L, 1L << 32,
        1L << 62, (1L << 62) - 1, Long.MAX_VALUE, Long.MAX_VALUE - 1, Long.MAX_VALUE - 2, Long.MIN_VALUE,
        7540113804746346429L, 4660046610375530309L, 4052555153018976267L, 1000000000000000L};
    private static final int[] FAR = {-1, -2, 40, 41, 60, 61, Integer.MAX_VALUE, Integer.MIN_VALUE};

    private final Random random;
    private final ExactShares x = new ExactShares();
    private final Model model = new Model();
    private final int run;
    private int used = 0;
    private String call = "";
    private long due;

    private ModelTest(int run) {
        this.run = run;
        random = new Random(run);
    }

    public static void main(String[] args) {
        for (int run = 0; run < RUNS; run++) {
            ModelTest one = new ModelTest(run);
            while (one.used <= CALLS) {
                one.step();
            }
            one.lookAtAll();
        }
        Due.end();
    }

    private void step() {
        int before = model.numbers.size();
        // Every third run comes to be full and stays so for a while.
        boolean crowded = before > (run % 3 == 0 ? 39 : 12) && random.nextInt(3) > 0;
        long got = crowded ? drop() : random.nextInt(3) > 0 ? onNumbers() : random.nextBoolean() ? onRows() : onOdds();
        Due.is("run " + run + ": " + call, got, due);
        used++;
        int after = model.numbers.size();
        if (after > before) {
            Due.is("run " + run + ": above of " + call, x.part(before, 0), model.part(before, 0));
            Due.is("run " + run + ": below of " + call, x.part(before, 1), model.part(before, 1));
            used += 2;
        }
    }

    private void lookAtAll() {
        String end = "run " + run + " in the end: ";
        for (int what = 0; what <= 5; what++) {
            Due.is(end + "count " + what, x.count(what), model.count(what));
        }
        for (int a = 0; a <= model.numbers.size(); a++) {
            Due.is(end + "above of " + a, x.part(a, 0), model.part(a, 0));
            Due.is(end + "below of " + a, x.part(a, 1), model.part(a, 1));
        }
        for (int row = 0; row < 4; row++) {
            for (int k = 0; k <= 8; k++) {
                Due.is(end + "row " + row + " value " + k, x.at(row, k), model.at(row, k));
            }
        }
        for (int k = 0; k <= 8; k++) {
            Due.is(end + "given " + k, x.given(k), model.given(k));
        }
        for (int what = 0; what <= 2; what++) {
            Due.is(end + "ways " + what, x.ways(what), model.ways(what));
        }
    }

    private long drop() {
        asked("drop");
        due = model.drop();
        return x.drop();
    }

    private long onNumbers() {
        int a = number(), b = number();
        switch (random.nextInt(10)) {
            case 0: case 1: case 2: {
                long u = whole(), v = whole();
                asked("value", u, v);
                due = model.value(u, v);
                return x.value(u, v);
            }
            case 3: case 4: {
                int op = pick(4);
                asked("act", op, a, b);
                due = model.act(op, a, b);
                return x.act(op, a, b);
            }
            case 5: {
                asked("over", a, b);
                due = model.over(a, b);
                try {
                    return x.over(a, b);
                } catch (ArithmeticException e) {
                    return Model.THROWN;
                }
            }
            case 6: {
                asked("order", a, b);
                due = model.order(a, b);
                return x.order(a, b);
            }
            case 7: {
                asked("simplest", a, b);
                due = model.simplest(a, b);
                return x.simplest(a, b);
            }
            case 8: {
                int most = random.nextInt(10) == 0 ? bound() : pick(random.nextBoolean() ? 12 : 60);
                asked("near", a, most);
                due = model.near(a, most);
                return x.near(a, most);
            }
            default: {
                int digits = pick(17);
                boolean up = random.nextBoolean();
                asked("cut", a, digits, up ? 1 : 0);
                due = model.cut(a, digits, up);
                return x.cut(a, digits, up);
            }
        }
    }

    private long onRows() {
        int row = pick(4), k = pick(8);
        switch (random.nextInt(12)) {
            case 0: {
                asked("empty", row);
                due = model.empty(row);
                return x.empty(row);
            }
            case 1: {
                asked("at", row, k);
                due = model.at(row, k);
                return x.at(row, k);
            }
            case 2: case 3: {
                asked("share", row, k);
                due = model.share(row, k);
                try {
                    return x.share(row, k);
                } catch (ArithmeticException e) {
                    return Model.THROWN;
                }
            }
            case 4: case 5: {
                int n = random.nextInt(8) == 0 ? 1990 + random.nextInt(13) : pick(40), way = pick(3);
                asked("seats", row, n, way);
                due = model.seats(row, n, way);
                return x.seats(row, n, way);
            }
            case 6: case 7: {
                asked("given", k);
                due = model.given(k);
                return x.given(k);
            }
            default: {
                long v = random.nextInt(20) == 0 ? whole()
                    : random.nextInt(new int[] {2, 5, 100, 1000001}[random.nextInt(4)]);
                asked("into", row, v);
                due = model.into(row, v);
                return x.into(row, v);
            }
        }
    }

    private long onOdds() {
        switch (random.nextInt(5)) {
            case 0: {
                int n = pick(random.nextBoolean() ? 8 : 61), k = pick(n > 0 && n < 100 ? n + 1 : 3), p = number();
                asked("tail", n, k, p);
                due = model.tail(n, k, p);
                return x.tail(n, k, p);
            }
            case 1: {
                int all = pick(61), most = all > 0 && all < 100 ? all + 1 : 2;
                int good = pick(most), drawn = pick(most), k = pick(most);
                asked("urn", all, good, drawn, k);
                due = model.urn(all, good, drawn, k);
                return x.urn(all, good, drawn, k);
            }
            case 2: {
                int a = pick(4), b = pick(4);
                asked("test", a, b);
                due = model.test(a, b);
                return x.test(a, b);
            }
            case 3: {
                int what = pick(3);
                asked("ways", what);
                due = model.ways(what);
                return x.ways(what);
            }
            default: {
                int what = pick(6);
                asked("count", what);
                due = model.count(what);
                return x.count(what);
            }
        }
    }

    private void asked(String name, long... arguments) {
        StringBuilder text = new StringBuilder(name).append('(');
        for (int i = 0; i < arguments.length; i++) {
            text.append(i == 0 ? "" : ", ").append(arguments[i]);
        }
        call = text.append(')').toString();
    }

    /** Mostly 0 .. many - 1, at times the one behind it or one that is far off. */
    private int pick(int many) {
        int kind = random.nextInt(30);
        return kind == 0 ? FAR[random.nextInt(FAR.length)] : kind == 1 ? many : random.nextInt(many);
    }

    private int number() {
        return pick(Math.max(1, model.numbers.size()));
    }

    /** Of every size up to 1,000,000, that and the one behind it too. */
    private int bound() {
        return Math.min(1000000 + random.nextInt(2), random.nextInt(1 << random.nextInt(22)));
    }

    private long whole() {
        long sign = random.nextBoolean() ? 1 : -1;
        switch (random.nextInt(4)) {
            case 0:
                return sign * EDGES[random.nextInt(EDGES.length)];
            case 1:
                return random.nextLong() >> random.nextInt(64);
            default:
                return sign * random.nextInt(random.nextBoolean() ? 12 : 200);
        }
    }
}
