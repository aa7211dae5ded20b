import java.util.function.Supplier;

/** Promises 30 to 32. */
public final class MeasuringTest {
    private static final double ABOVE = Double.POSITIVE_INFINITY;
    private static final double BELOW = Double.NEGATIVE_INFINITY;
    private static final double LEAST = Double.MIN_VALUE;
    private static final double MOST = Double.MAX_VALUE;
    private static final Class<?> NO_SLOT = IndexOutOfBoundsException.class;
    private static final Class<?> OUT_OF_RANGE = IllegalArgumentException.class;
    private static final Class<?> NO_END = IllegalStateException.class;
    private static final Supplier<Doubleline> SOME = () -> Check.with(1.5, -3, 0.0, -0.0, ABOVE, BELOW);
    private static final double[] NUMBERS = {0.0, -0.0, LEAST, -LEAST, 2 * LEAST, 1, -1, Math.nextUp(1.0),
        Math.nextDown(1.0), 3, -1e100, 1e100, MOST, -MOST, Math.nextDown(MOST), Double.MIN_NORMAL, 0x1p-1010,
        0x1.fffffp-1000};
    private static final int[] MODULI = {1, 2, 3, 7, 64, 1000, 65536, 999983, 999999, 1000000};

    public static void main(String[] args) {
        grains();
        gap();
        compareGaps();
        compareGapsEdges();
        refusals();
        noSuchSlot();
        Check.finish();
    }

    private static void grains() {
        for (double number : NUMBERS) {
            Doubleline x = Check.with(number);
            Model model = new Model();
            model.slots[0] = number;
            for (int modulus : MODULI) {
                Check.due("30: grains of " + number + ", " + modulus, x.grains(0, modulus), model.grains(0, modulus));
            }
        }
        Check.due("30: grains of -5 places", Check.with(-5 * LEAST).grains(0, 3), 2);
    }

    private static void gap() {
        for (double one : NUMBERS) {
            for (double other : NUMBERS) {
                Doubleline x = Check.with(one, other);
                Model model = new Model();
                model.slots[0] = one;
                model.slots[1] = other;
                for (int modulus : MODULI) {
                    String call = "31: gap of " + one + " and " + other + ", " + modulus;
                    Check.due(call, x.gap(0, 1, modulus), model.gap(0, 1, modulus));
                }
            }
        }
    }

    private static void compareGaps() {
        int seed = 1;
        for (int i = 0; i < 4000; i++) {
            double[] numbers = new double[4];
            for (int j = 0; j < 4; j++) {
                seed = seed * 1103515245 + 12345;
                numbers[j] = NUMBERS[(seed >>> 16) % NUMBERS.length];
            }
            Doubleline x = Check.with(numbers);
            Model model = new Model();
            System.arraycopy(numbers, 0, model.slots, 0, 4);
            String call = "32: compareGaps of " + java.util.Arrays.toString(numbers);
            Check.due(call, x.compareGaps(0, 1, 2, 3), model.compareGaps(0, 1, 2, 3));
        }
    }

    private static void compareGapsEdges() {
        Doubleline x = Check.with(MOST, -MOST, Math.nextDown(MOST), -LEAST, LEAST, 0.0, -0.0, 2 * LEAST);
        Check.due("32: from end to end, the same", x.compareGaps(0, 1, 1, 0), 0);
        Check.due("32: a unit more", x.compareGaps(0, 1, 2, 1), 1);
        Check.due("32: a unit less", x.compareGaps(2, 1, 0, 1), -1);
        Check.due("32: two grains, two grains", x.compareGaps(3, 4, 7, 6), 0);
        Check.due("32: one grain, no grain", x.compareGaps(4, 5, 5, 6), 1);
        Check.due("32: no grain, one grain", x.compareGaps(5, 6, 3, 6), -1);
        // Doubles alone would call these the same: a grain is lost beside the greatest number.
        Check.due("32: a grain beside the greatest", x.compareGaps(0, 3, 0, 4), 1);
        Check.due("32: a grain beside the greatest, turned", x.compareGaps(0, 4, 0, 5), -1);
    }

    private static void refusals() {
        for (int bad : new int[] {0, -1, 1000001, Integer.MIN_VALUE, Integer.MAX_VALUE}) {
            Check.refused("30: grains(0, " + bad + ")", SOME, OUT_OF_RANGE, x -> x.grains(0, bad));
            Check.refused("30: grains(4, " + bad + ")", SOME, OUT_OF_RANGE, x -> x.grains(4, bad));
            Check.refused("30: grains(8, " + bad + ")", SOME, NO_SLOT, x -> x.grains(8, bad));
            Check.refused("31: gap(0, 1, " + bad + ")", SOME, OUT_OF_RANGE, x -> x.gap(0, 1, bad));
            Check.refused("31: gap(0, 4, " + bad + ")", SOME, OUT_OF_RANGE, x -> x.gap(0, 4, bad));
            Check.refused("31: gap(4, 8, " + bad + ")", SOME, NO_SLOT, x -> x.gap(4, 8, bad));
        }
        for (int endless : new int[] {4, 5}) {
            Check.refused("30: grains(" + endless + ", 7)", SOME, NO_END, x -> x.grains(endless, 7));
            Check.refused("31: gap(" + endless + ", 0, 7)", SOME, NO_END, x -> x.gap(endless, 0, 7));
            Check.refused("31: gap(0, " + endless + ", 7)", SOME, NO_END, x -> x.gap(0, endless, 7));
            Check.refused("31: gap of the same", SOME, NO_END, x -> x.gap(endless, endless, 7));
            Check.refused("32: compareGaps, first", SOME, NO_END, x -> x.compareGaps(endless, 0, 1, 2));
            Check.refused("32: compareGaps, second", SOME, NO_END, x -> x.compareGaps(0, endless, 1, 2));
            Check.refused("32: compareGaps, third", SOME, NO_END, x -> x.compareGaps(0, 1, endless, 2));
            Check.refused("32: compareGaps, fourth", SOME, NO_END, x -> x.compareGaps(0, 1, 2, endless));
            Check.refused("32: compareGaps, both", SOME, NO_SLOT, x -> x.compareGaps(endless, 1, 2, 8));
        }
    }

    private static void noSuchSlot() {
        for (int bad : new int[] {-1, 8, Integer.MIN_VALUE, Integer.MAX_VALUE}) {
            Check.refused("30: grains(" + bad + ", 7)", SOME, NO_SLOT, x -> x.grains(bad, 7));
            Check.refused("31: gap(" + bad + ", 0, 7)", SOME, NO_SLOT, x -> x.gap(bad, 0, 7));
            Check.refused("31: gap(0, " + bad + ", 7)", SOME, NO_SLOT, x -> x.gap(0, bad, 7));
            Check.refused("32: compareGaps(" + bad + ", ..)", SOME, NO_SLOT, x -> x.compareGaps(bad, 0, 1, 2));
            Check.refused("32: compareGaps(0, " + bad + ", ..)", SOME, NO_SLOT, x -> x.compareGaps(0, bad, 1, 2));
            Check.refused("32: compareGaps(0, 1, " + bad + ", 2)", SOME, NO_SLOT, x -> x.compareGaps(0, 1, bad, 2));
            Check.refused("32: compareGaps(0, 1, 2, " + bad + ")", SOME, NO_SLOT, x -> x.compareGaps(0, 1, 2, bad));
        }
    }
}
