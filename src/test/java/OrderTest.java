import java.util.function.Supplier;

/** Promises 19 to 21. */
public final class OrderTest {
    private static final double[] RISING = {Double.NEGATIVE_INFINITY, -Double.MAX_VALUE, -1, -Double.MIN_VALUE, 0.0,
        Double.MIN_VALUE, 2.5, Double.POSITIVE_INFINITY};
    private static final Class<?> NO_SLOT = IndexOutOfBoundsException.class;
    private static final Supplier<Doubleline> SOME = () -> Check.with(1.5, -3, 0.0, -0.0);

    public static void main(String[] args) {
        compare();
        least();
        rank();
        for (int bad : new int[] {-1, 8, Integer.MIN_VALUE, Integer.MAX_VALUE}) {
            Check.refused("19: compare(" + bad + ", 0)", SOME, NO_SLOT, x -> x.compare(bad, 0));
            Check.refused("19: compare(0, " + bad + ")", SOME, NO_SLOT, x -> x.compare(0, bad));
            Check.refused("21: rank(" + bad + ")", SOME, NO_SLOT, x -> x.rank(bad));
        }
        Check.finish();
    }

    private static void compare() {
        Doubleline x = Check.with(RISING);
        for (int i = 0; i < 8; i++) {
            for (int j = 0; j < 8; j++) {
                Check.due("19: compare(" + i + ", " + j + ")", x.compare(i, j), Integer.compare(i, j));
            }
        }
        x = Check.with(0.0, -0.0);
        Check.due("19: compare of 0 and -0", x.compare(0, 1), 0);
        Check.due("19: compare of -0 and 0", x.compare(1, 0), 0);
    }

    private static void least() {
        Check.due("20: least() of zeros", new Doubleline().least(), 0);
        Check.due("20: least() of rising ones", Check.with(RISING).least(), 0);
        Check.due("20: least() of 0 and -0", Check.with(1, 1, 0.0, -0.0, 1, 1, 1, 1).least(), 2);
        Check.due("20: least() of -0 and 0", Check.with(1, 1, -0.0, 0.0, 1, 1, 1, 1).least(), 2);
        Check.due("20: least() is the last", Check.with(5, 4, 3, 2, 1, 0, -1, -2).least(), 7);
        for (int i = 0; i < 8; i++) {
            Doubleline x = new Doubleline();
            x.set(i, -1, 0);
            Check.due("20: least() is " + i, x.least(), i);
        }
        Check.due("20: least() is the first of two", Check.with(5, 4, -3, 2, 1, -3, -1, -2).least(), 2);
    }

    private static void rank() {
        Doubleline x = Check.with(RISING);
        for (int i = 0; i < 8; i++) {
            Check.due("21: rank(" + i + ")", x.rank(i), i);
        }
        x = Check.with(1, 0.0, -0.0, -1, 1, 1, 2, 2);
        int[] ranks = {3, 1, 1, 0, 3, 3, 6, 6};
        for (int i = 0; i < 8; i++) {
            Check.due("21: rank(" + i + ") with equals", x.rank(i), ranks[i]);
        }
    }
}
