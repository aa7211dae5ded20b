import java.util.function.Supplier;

/** Promises 1 to 10. */
public final class NumbersTest {
    private static final long ENDLESS = 9218868437227405312L;
    private static final Class<?> NO_SLOT = IndexOutOfBoundsException.class;
    private static final Class<?> OUT_OF_RANGE = IllegalArgumentException.class;
    private static final Supplier<Doubleline> SOME = () -> Check.with(1.5, -3, 0.0, -0.0);
    private static final int[] NO_SLOTS = {-1, 8, Integer.MIN_VALUE, Integer.MAX_VALUE};

    public static void main(String[] args) {
        newObject();
        set();
        setRefuses();
        end();
        copyAndNegate();
        placeAndBits();
        kindsOfNumbers();
        noSuchSlot();
        Check.finish();
    }

    private static void newObject() {
        Doubleline x = new Doubleline();
        for (int i = 0; i < 8; i++) {
            Check.due("1: bits(" + i + ")", x.bits(i), 0);
        }
        Check.due("1: hush()", x.hush(), 0);
        Check.due("1: undo()", Check.undone(x), -1);
    }

    private static void set() {
        Doubleline x = new Doubleline();
        Check.due("2: set(0, 1, 0)", x.set(0, 1, 0), 1);
        Check.due("2: set(7, 1, 128)", x.set(7, 1, 128), 4607182418800017408L);
        Check.due("2: bits(7)", x.bits(7), 4607182418800017408L);
        for (int power = 0; power <= 255; power++) {
            x = power % 16 == 0 ? new Doubleline() : x; // an object is for 512 calls
            for (int factor : new int[] {-128, -127, -1, 0, 1, 3, 100, 127}) {
                double want = Model.handed(factor, power);
                String call = "2: set(1, " + factor + ", " + power + ")";
                Check.due(call, x.set(1, factor, power), Model.place(want));
                Check.due(call + ", bits(1)", x.bits(1), Double.doubleToRawLongBits(want));
            }
        }
        x = Check.with(-0.0);
        Check.due("2: set(0, 0, 9) on -0", x.set(0, 0, 9), 0);
        Check.due("2: bits(0) after set(0, 0, 9)", x.bits(0), 0);
    }

    private static void setRefuses() {
        Check.refused("2: set(0, -129, 0)", SOME, OUT_OF_RANGE, x -> x.set(0, -129, 0));
        Check.refused("2: set(0, 128, 0)", SOME, OUT_OF_RANGE, x -> x.set(0, 128, 0));
        Check.refused("2: set(0, 1, -1)", SOME, OUT_OF_RANGE, x -> x.set(0, 1, -1));
        Check.refused("2: set(0, 1, 256)", SOME, OUT_OF_RANGE, x -> x.set(0, 1, 256));
        Check.refused("2: set(8, 128, 256)", SOME, NO_SLOT, x -> x.set(8, 128, 256));
    }

    private static void end() {
        Doubleline x = new Doubleline();
        Check.due("3: end(0, true)", x.end(0, true), ENDLESS);
        Check.due("3: end(7, false)", x.end(7, false), -ENDLESS);
        Check.due("3: bits(0)", x.bits(0), ENDLESS);
        Check.due("3: bits(7)", x.bits(7), Double.doubleToRawLongBits(Double.NEGATIVE_INFINITY));
    }

    private static void copyAndNegate() {
        double[] numbers = {0.0, -0.0, 1, -1, 4.9e-324, -2.5e-310, Double.POSITIVE_INFINITY, Double.NEGATIVE_INFINITY};
        for (double number : numbers) {
            Doubleline x = Check.with(number, 7);
            Check.due("4: copy of " + number, x.copy(0, 1), Model.place(number));
            Check.due("4: bits(1) of " + number, x.bits(1), Double.doubleToRawLongBits(number));
            Check.due("4: bits(0) of " + number, x.bits(0), Double.doubleToRawLongBits(number));
            Check.due("5: negate of " + number, x.negate(0, 2), Model.place(-number));
            Check.due("5: bits(2) of " + number, x.bits(2), Double.doubleToRawLongBits(-number));
            Check.due("5: bits(0) of " + number, x.bits(0), Double.doubleToRawLongBits(number));
            Check.due("5: negate of itself", x.negate(0, 0), Model.place(-number));
            Check.due("5: bits(0) after it", x.bits(0), Double.doubleToRawLongBits(-number));
        }
    }

    private static void placeAndBits() {
        Doubleline x = Check.with(1, -1, 0.0, -0.0, Double.MIN_VALUE, -Double.MIN_VALUE, Double.MAX_VALUE, -Math.PI);
        long[] places = {4607182418800017408L, -4607182418800017408L, 0, 0, 1, -1, ENDLESS - 1,
            -Double.doubleToLongBits(Math.PI)};
        for (int i = 0; i < 8; i++) {
            Check.due("6: place(" + i + ")", x.place(i), places[i]);
        }
        Check.due("7: bits of -1", x.bits(1), Long.MIN_VALUE + 4607182418800017408L);
        Check.due("7: bits of 0", x.bits(2), 0);
        Check.due("7: bits of -0", x.bits(3), Long.MIN_VALUE);
        Check.due("7: bits of the place 1", x.bits(4), 1);
        Check.due("7: bits of the place -1", x.bits(5), Long.MIN_VALUE + 1);
    }

    private static void kindsOfNumbers() {
        double[] numbers = {0.0, -0.0, 1, -1, 0.5, -0.5, 1.5, 255.5, 1e15 + 0.5, 1L << 52, (1L << 52) - 0.5,
            (1L << 53) + 2.0, 1e300, Math.nextUp(1.0), Math.nextDown(1.0), Double.MIN_VALUE, -Double.MIN_VALUE,
            Double.MIN_NORMAL, -Double.MIN_NORMAL, Math.nextDown(Double.MIN_NORMAL), Double.MAX_VALUE,
            -Double.MAX_VALUE, Double.POSITIVE_INFINITY, Double.NEGATIVE_INFINITY};
        for (double number : numbers) {
            Doubleline x = Check.with(number);
            Check.due("8: isEndless of " + number, x.isEndless(0), Double.isInfinite(number));
            Check.due("9: isWhole of " + number, x.isWhole(0), Model.isWhole(number));
            Check.due("10: isSmall of " + number, x.isSmall(0), Math.abs(number) < Double.MIN_NORMAL);
        }
    }

    private static void noSuchSlot() {
        for (int bad : NO_SLOTS) {
            Check.refused("2: set(" + bad + ")", SOME, NO_SLOT, x -> x.set(bad, 1, 1));
            Check.refused("3: end(" + bad + ")", SOME, NO_SLOT, x -> x.end(bad, true));
            Check.refused("4: copy(" + bad + ", 0)", SOME, NO_SLOT, x -> x.copy(bad, 0));
            Check.refused("4: copy(0, " + bad + ")", SOME, NO_SLOT, x -> x.copy(0, bad));
            Check.refused("5: negate(" + bad + ", 0)", SOME, NO_SLOT, x -> x.negate(bad, 0));
            Check.refused("5: negate(0, " + bad + ")", SOME, NO_SLOT, x -> x.negate(0, bad));
            Check.refused("6: place(" + bad + ")", SOME, NO_SLOT, x -> x.place(bad));
            Check.refused("7: bits(" + bad + ")", SOME, NO_SLOT, x -> x.bits(bad));
            Check.refused("8: isEndless(" + bad + ")", SOME, NO_SLOT, x -> x.isEndless(bad));
            Check.refused("9: isWhole(" + bad + ")", SOME, NO_SLOT, x -> x.isWhole(bad));
            Check.refused("10: isSmall(" + bad + ")", SOME, NO_SLOT, x -> x.isSmall(bad));
        }
    }
}
