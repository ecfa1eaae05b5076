import java.util.Random;

/**
 * Promise 9 with bounds of every size: of two neighbours the middle, which is as near to both, and what lies just
 * beside it, with bounds round the greater lower part and round both together. The answers are the model's, which
 * tries every lower part. The draws are the same every time.
 */
public final class NearTest {
    private static final int PAIRS = 150;
    private static final int GREATEST = 1000000;

    public static void main(String[] args) {
        Random random = new Random(9);
        for (int i = 0; i < PAIRS; i++) {
            neighbours(random, 2 + random.nextInt(1 << (1 + random.nextInt(19))));
        }
        Due.end();
    }

    /** Steps down between two whole numbers while both lower parts together are within the limit. */
    private static void neighbours(Random random, int limit) {
        long lowAbove = random.nextInt(7) - 3, lowBelow = 1, highAbove = lowAbove + 1, highBelow = 1;
        while (lowBelow + highBelow <= limit) {
            long above = lowAbove + highAbove, below = lowBelow + highBelow;
            if (random.nextInt(3) > 0 == lowBelow < highBelow) {
                lowAbove = above;
                lowBelow = below;
            } else {
                highAbove = above;
                highBelow = below;
            }
        }
        long u = lowAbove * highBelow + highAbove * lowBelow;
        long v = 2 * lowBelow * highBelow;
        int greater = (int) Math.max(lowBelow, highBelow), both = (int) (lowBelow + highBelow);
        for (int side = -1; side <= 1; side++) {
            // The middle itself, and what is nearer to one of the two by a thousandth of a step.
            for (int most : new int[] {1, greater - 1, greater, greater + 1, both - 1, both, both + 1, GREATEST}) {
                near(1000 * u + side, 1000 * v, Math.min(most, GREATEST));
            }
        }
    }

    private static void near(long u, long v, int most) {
        ExactShares x = Due.with(u, v);
        Model model = new Model();
        model.value(u, v);
        String call = "near of " + u + "/" + v + " with bound " + most;
        long due = model.near(0, most);
        Due.is(call, x.near(0, most), due);
        Due.is(call + ", above", x.part(1, 0), model.part(1, 0));
        Due.is(call + ", below", x.part(1, 1), model.part(1, 1));
    }
}
