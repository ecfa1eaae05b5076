/** Counts and prints the answers that are not as due. */
final class Due {
    private static int wrong = 0;
    private static int asked = 0;

    /** Far above what any test takes, so that a call that does not end fails the test. */
    private static final long SECONDS = 300;

    static {
        Thread watch = new Thread(Due::giveUp);
        watch.setDaemon(true);
        watch.start();
    }

    private Due() {
    }

    private static void giveUp() {
        try {
            Thread.sleep(1000 * SECONDS);
            System.out.println("a call does not end, or the test takes more than " + SECONDS + " seconds");
        } catch (InterruptedException e) {
            System.out.println("the watch was broken off");
        }
        Runtime.getRuntime().halt(1);
    }

    static void is(String what, long got, long due) {
        asked++;
        if (got != due) {
            wrong++;
            System.out.println(what + " answered " + got + ", due is " + due);
        }
    }

    static void same(String what, String got, String due) {
        asked++;
        if (!got.equals(due)) {
            wrong++;
            System.out.println(what + " is " + got + ", due is " + due);
        }
    }

    /** Number a is u / v, part by part. */
    static void number(ExactShares x, int a, long u, long v) {
        is("part(" + a + ", 0)", x.part(a, 0), u);
        is("part(" + a + ", 1)", x.part(a, 1), v);
    }

    /** The answer is a new number, the last one, and it is u / v. */
    static void made(String what, ExactShares x, int got, long u, long v) {
        is(what, got, x.count(0) - 1);
        if (got >= 0) {
            is(what + ", above", x.part(got, 0), u);
            is(what + ", below", x.part(got, 1), v);
        }
    }

    static void overThrows(ExactShares x, int a, int b) {
        boolean thrown = false;
        try {
            x.over(a, b);
        } catch (ArithmeticException e) {
            thrown = true;
        }
        is("over(" + a + ", " + b + ") throws", thrown ? 1 : 0, 1);
    }

    static void shareThrows(ExactShares x, int row, int k) {
        boolean thrown = false;
        try {
            x.share(row, k);
        } catch (ArithmeticException e) {
            thrown = true;
        }
        is("share(" + row + ", " + k + ") throws", thrown ? 1 : 0, 1);
    }

    /** An object with these numbers, given as u, v, u, v, .. */
    static ExactShares with(long... parts) {
        ExactShares x = new ExactShares();
        for (int i = 0; i < parts.length; i += 2) {
            x.value(parts[i], parts[i + 1]);
        }
        return x;
    }

    static void row(ExactShares x, int row, long... values) {
        x.empty(row);
        for (long v : values) {
            x.into(row, v);
        }
    }

    /** Makes the object full of numbers; the new ones are 7 / 3. */
    static void fill(ExactShares x) {
        while (x.count(0) < 40) {
            x.value(7, 3);
        }
    }

    static void end() {
        System.out.println(asked + " answers, " + wrong + " not as due");
        if (wrong != 0) {
            System.exit(1);
        }
    }
}
