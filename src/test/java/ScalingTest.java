import java.util.function.Supplier;

/** Promises 22 to 29. */
public final class ScalingTest {
    private static final double ABOVE = Double.POSITIVE_INFINITY;
    private static final double BELOW = Double.NEGATIVE_INFINITY;
    private static final double LEAST = Double.MIN_VALUE;
    private static final double NORMAL = Double.MIN_NORMAL;
    private static final Class<?> NO_SLOT = IndexOutOfBoundsException.class;
    private static final Class<?> OUT_OF_RANGE = IllegalArgumentException.class;
    private static final Class<?> NO_POWER = ArithmeticException.class;
    private static final Supplier<Doubleline> SOME = () -> Check.with(1.5, -3, 0.0, -0.0, ABOVE, BELOW);
    private static final double[] NUMBERS = {0.0, -0.0, LEAST, -LEAST, 3 * LEAST, -5 * LEAST, 6 * LEAST, 7 * LEAST,
        1, -1, 1.5, -0.75, 3, Math.PI, -Math.E, Math.nextUp(1.0), Math.nextDown(1.0), Math.nextUp(2.0),
        Math.nextDown(2.0), NORMAL, -NORMAL, Math.nextUp(NORMAL), Math.nextDown(NORMAL), 2 * NORMAL - LEAST,
        2 * NORMAL, Double.MAX_VALUE, -Double.MAX_VALUE, 0x1p1023, 0x1.8p1023, 0x1.fp-1040, 1e-310, -1e-310, ABOVE,
        BELOW};

    public static void main(String[] args) {
        scale();
        scaleEdges();
        keptAndOne();
        figuresOfOne();
        unitEdges();
        refusals();
        noSuchSlot();
        Check.finish();
    }

    private static void scale() {
        for (double number : NUMBERS) {
            for (int k = -2200; k <= 2200; k += k > -1100 && k < -900 || k > -80 && k < 80 ? 1 : 37) {
                double want = Math.scalb(number, k);
                Doubleline x = Check.with(number);
                String call = "22: scale of " + number + " by " + k;
                Check.due(call, x.scale(0, k, 1), Model.place(want));
                Check.due(call + ", bits(1)", x.bits(1), Double.doubleToRawLongBits(want));
                Check.due(call + ", bits(0)", x.bits(0), Double.doubleToRawLongBits(number));
            }
        }
    }

    private static void scaleEdges() {
        scaled(3 * LEAST, -1, 2); // as near to the places 1 and 2
        scaled(LEAST, -1, 0);
        scaled(5 * LEAST, -1, 2);
        scaled(-LEAST, -1, Long.MIN_VALUE);
        scaled(Math.nextUp(1.0), -1075, 1); // just above half a grain
        scaled(1, -1075, 0);
        scaled(1, -1074, 1);
        scaled(-1, -4200, Long.MIN_VALUE);
        scaled(LEAST, 4200, 9218868437227405312L);
        scaled(LEAST, 2098, 9218868437227405312L);
        scaled(LEAST, 2097, Double.doubleToRawLongBits(0x1p1023));
        scaled(-LEAST, 2098, Double.doubleToRawLongBits(BELOW));
        scaled(Double.MAX_VALUE, -4200, 0);
        scaled(Double.MAX_VALUE, 1, 9218868437227405312L);
        scaled(Math.nextDown(2.0), -1023, Double.doubleToRawLongBits(NORMAL)); // rounded up to a normal one
        scaled(-0.0, 7, Long.MIN_VALUE);
        scaled(ABOVE, -4200, 9218868437227405312L);
    }

    private static void scaled(double number, int k, long want) {
        Doubleline x = Check.with(number);
        x.scale(0, k, 0);
        Check.due("22: bits after scale of " + number + " by " + k, x.bits(0), want);
    }

    private static void keptAndOne() {
        int[] powers = {-2100, -1100, -1074, -1022, -60, -52, -2, -1, 0, 1, 2, 52, 53, 1023, 1024, 2098, 2100};
        for (double number : NUMBERS) {
            Doubleline x = Check.with(number);
            for (int k : powers) {
                boolean want = Model.same(Math.scalb(Math.scalb(number, k), -k), number);
                Check.due("23: isKept of " + number + " by " + k, x.isKept(0, k), want);
            }
            Check.due("23: isKept of " + number + " by 4200", x.isKept(0, 4200), Double.isInfinite(number) || number == 0);
            Check.due("23: isKept of " + number + " by -4200", x.isKept(0, -4200), Double.isInfinite(number) || number == 0);
            for (int j : powers) {
                x = Check.with(number);
                for (int k : powers) {
                    boolean want = Model.same(Math.scalb(Math.scalb(number, j), k), Math.scalb(number, j + k));
                    Check.due("24: isOne of " + number + " by " + j + ", " + k, x.isOne(0, j, k), want);
                }
            }
            Check.due("24: nothing becomes anything", x.bits(0), Double.doubleToRawLongBits(number));
        }
        // Both ways give a zero: what is below 0 becomes -0 in both.
        Check.due("24: isOne of -1 by -2100, 0", Check.with(-1.0).isOne(0, -2100, 0), true);
    }

    private static void figuresOfOne() {
        for (double number : NUMBERS) {
            Doubleline x = Check.with(number);
            Check.due("25: exponent of " + number, x.exponent(0), Math.getExponent(number));
            Check.due("26: unit of " + number, x.unit(0, 1), Model.place(Math.ulp(number)));
            Check.due("26: bits of the unit of " + number, x.bits(1), Double.doubleToRawLongBits(Math.ulp(number)));
            if (Model.isLed(number)) {
                Check.due("27: lead of " + number, x.lead(0), Model.lead(number));
                Check.due("28: tail of " + number, x.tail(0), Model.tail(number));
                Check.due("29: power of " + number, x.power(0, 2), Model.place(Model.power(number)));
                Check.due("29: bits of the power of " + number, x.bits(2), Double.doubleToRawLongBits(Model.power(number)));
                Check.due("29: the number stays", x.bits(0), Double.doubleToRawLongBits(number));
            } else {
                Supplier<Doubleline> made = () -> Check.with(number, 1);
                Check.refused("27: lead of " + number, made, NO_POWER, y -> y.lead(0));
                Check.refused("28: tail of " + number, made, NO_POWER, y -> y.tail(0));
                Check.refused("29: power of " + number, made, NO_POWER, y -> y.power(0, 1));
            }
        }
    }

    private static void unitEdges() {
        Doubleline x = Check.with(0.0, -0.0, BELOW, -NORMAL, -1, LEAST, 0x1p1023);
        Check.due("25: exponent of 0", x.exponent(0), -1023);
        Check.due("25: exponent of -0", x.exponent(1), -1023);
        Check.due("25: exponent of the endless one", x.exponent(2), 1024);
        Check.due("25: exponent of the least normal one", x.exponent(3), -1022);
        Check.due("27: lead of the place 1", x.lead(5), -1074);
        Check.due("28: tail of the place 1", x.tail(5), -1074);
        Check.due("27: lead of 2 to the power 1023", x.lead(6), 1023);
        Check.due("28: tail of 2 to the power 1023", x.tail(6), 1023);
        Check.due("26: unit of 0", x.unit(0, 7), 1);
        Check.due("26: unit of -0", x.unit(1, 7), 1);
        Check.due("26: unit of the least normal one", x.unit(3, 7), 1);
        Check.due("26: unit of the endless one below 0", x.unit(2, 7), 9218868437227405312L);
        Check.due("29: power of -1", x.power(4, 4), 4607182418800017408L);
    }

    private static void refusals() {
        for (int bad : new int[] {-4201, 4201, Integer.MIN_VALUE, Integer.MAX_VALUE}) {
            Check.refused("22: scale(0, " + bad + ", 1)", SOME, OUT_OF_RANGE, x -> x.scale(0, bad, 1));
            Check.refused("22: scale(8, " + bad + ", 1)", SOME, NO_SLOT, x -> x.scale(8, bad, 1));
            Check.refused("22: scale(0, " + bad + ", 8)", SOME, NO_SLOT, x -> x.scale(0, bad, 8));
            Check.refused("23: isKept(0, " + bad + ")", SOME, OUT_OF_RANGE, x -> x.isKept(0, bad));
            Check.refused("23: isKept(8, " + bad + ")", SOME, NO_SLOT, x -> x.isKept(8, bad));
        }
        for (int bad : new int[] {-2101, 2101, Integer.MIN_VALUE, Integer.MAX_VALUE}) {
            Check.refused("24: isOne(0, " + bad + ", 0)", SOME, OUT_OF_RANGE, x -> x.isOne(0, bad, 0));
            Check.refused("24: isOne(0, 0, " + bad + ")", SOME, OUT_OF_RANGE, x -> x.isOne(0, 0, bad));
            Check.refused("24: isOne(8, 0, " + bad + ")", SOME, NO_SLOT, x -> x.isOne(8, 0, bad));
        }
        Check.refused("29: power(2, 8)", SOME, NO_SLOT, x -> x.power(2, 8));
    }

    private static void noSuchSlot() {
        for (int bad : new int[] {-1, 8, Integer.MIN_VALUE, Integer.MAX_VALUE}) {
            Check.refused("22: scale(" + bad + ", 0, 0)", SOME, NO_SLOT, x -> x.scale(bad, 0, 0));
            Check.refused("22: scale(0, 0, " + bad + ")", SOME, NO_SLOT, x -> x.scale(0, 0, bad));
            Check.refused("23: isKept(" + bad + ", 0)", SOME, NO_SLOT, x -> x.isKept(bad, 0));
            Check.refused("24: isOne(" + bad + ", 0, 0)", SOME, NO_SLOT, x -> x.isOne(bad, 0, 0));
            Check.refused("25: exponent(" + bad + ")", SOME, NO_SLOT, x -> x.exponent(bad));
            Check.refused("26: unit(" + bad + ", 0)", SOME, NO_SLOT, x -> x.unit(bad, 0));
            Check.refused("26: unit(0, " + bad + ")", SOME, NO_SLOT, x -> x.unit(0, bad));
            Check.refused("27: lead(" + bad + ")", SOME, NO_SLOT, x -> x.lead(bad));
            Check.refused("28: tail(" + bad + ")", SOME, NO_SLOT, x -> x.tail(bad));
            Check.refused("29: power(" + bad + ", 0)", SOME, NO_SLOT, x -> x.power(bad, 0));
            Check.refused("29: power(0, " + bad + ")", SOME, NO_SLOT, x -> x.power(0, bad));
        }
    }
}
