import java.util.function.Supplier;

/** Promises 11 to 18. */
public final class StepsTest {
    private static final double ABOVE = Double.POSITIVE_INFINITY;
    private static final double BELOW = Double.NEGATIVE_INFINITY;
    private static final double LEAST = Double.MIN_VALUE;
    private static final Class<?> NO_SLOT = IndexOutOfBoundsException.class;
    private static final Class<?> OUT_OF_RANGE = IllegalArgumentException.class;
    private static final Supplier<Doubleline> SOME = () -> Check.with(1.5, -3, 0.0, -0.0);
    private static final int[] NO_SLOTS = {-1, 8, Integer.MIN_VALUE, Integer.MAX_VALUE};
    private static final double[] NUMBERS = {0.0, -0.0, LEAST, -LEAST, 2 * LEAST, -2 * LEAST, 40 * LEAST, -40 * LEAST,
        64 * LEAST, -64 * LEAST, 1, -1, Math.nextUp(1.0), 1.5, Double.MIN_NORMAL, -Double.MIN_NORMAL,
        Math.nextDown(Double.MIN_NORMAL), Double.MAX_VALUE, -Double.MAX_VALUE, ABOVE, BELOW};

    public static void main(String[] args) {
        upAndDown();
        upAndDownAtZero();
        towardAtZero();
        pairs();
        walkEdges();
        middleEdges();
        refusals();
        noSuchSlot();
        Check.finish();
    }

    private static void upAndDown() {
        for (double number : NUMBERS) {
            for (int steps : new int[] {0, 1, 2, 3, 39, 40, 41, 63, 64}) {
                Model model = new Model();
                model.slots[0] = number;
                Doubleline x = Check.with(number);
                String at = " " + steps + " steps from " + number;
                Check.due("11: up" + at, x.up(0, steps), model.up(0, steps));
                Check.due("11: bits(0) up" + at, x.bits(0), Double.doubleToRawLongBits(model.slots[0]));
                Check.due("11: undo up" + at, x.undo(), 0);
                Check.due("11: bits(0) back" + at, x.bits(0), Double.doubleToRawLongBits(number));
                model.undo();
                Check.due("12: down" + at, x.down(0, steps), model.down(0, steps));
                Check.due("12: bits(0) down" + at, x.bits(0), Double.doubleToRawLongBits(model.slots[0]));
                Check.due("12: undo down" + at, x.undo(), 0);
                Check.due("12: bits(0) back" + at, x.bits(0), Double.doubleToRawLongBits(number));
            }
        }
    }

    private static void upAndDownAtZero() {
        Doubleline x = Check.with(-0.0);
        Check.due("11: up(0, 0) on -0", x.up(0, 0), 0);
        Check.due("11: it stays -0", x.bits(0), Long.MIN_VALUE);
        Check.due("11: up(0, 1) on -0", x.up(0, 1), 1);
        Check.due("11: it is the place 1", x.bits(0), 1);
        Check.due("12: down(0, 1) on the place 1", x.down(0, 1), 1);
        Check.due("12: it is 0", x.bits(0), 0);
        Check.due("12: down(0, 1) on 0", x.down(0, 1), 1);
        Check.due("12: it is the place -1", x.place(0), -1);
        Check.due("11: up(0, 1) on the place -1", x.up(0, 1), 1);
        Check.due("11: it is -0", x.bits(0), Long.MIN_VALUE);
        x.end(0, true);
        Check.due("11: up(0, 64) on the endless one", x.up(0, 64), 0);
        x.down(0, 10);
        Check.due("11: up(0, 64) ten places below", x.up(0, 64), 10);
        Check.due("11: endless", x.isEndless(0), true);
    }

    private static void towardAtZero() {
        Doubleline x = Check.with(0.0, -0.0, 3 * LEAST, -3 * LEAST);
        Check.due("13: 0 towards -0", x.toward(0, 1, 3), 1);
        Check.due("13: it is -0", x.bits(0), Long.MIN_VALUE);
        Check.due("13: from above towards -0", x.toward(2, 1, 64), 4);
        Check.due("13: it is -0 too", x.bits(2), Long.MIN_VALUE);
        x = Check.with(0.0, -0.0, 3 * LEAST, -3 * LEAST);
        Check.due("13: from below towards 0", x.toward(3, 0, 64), 4);
        Check.due("13: it is 0", x.bits(3), 0);
        Check.due("13: -0 towards 0, no step", x.toward(1, 0, 0), 0);
        Check.due("13: it stays -0", x.bits(1), Long.MIN_VALUE);
        Check.due("13: towards itself", x.toward(1, 1, 64), 0);
        Check.due("13: it stays -0 again", x.bits(1), Long.MIN_VALUE);
    }

    private static void pairs() {
        for (double one : NUMBERS) {
            for (double other : NUMBERS) {
                Model model = new Model();
                model.slots[0] = one;
                model.slots[1] = other;
                Doubleline x = Check.with(one, other);
                String at = " of " + one + " and " + other;
                Check.due("14: walk" + at, x.walk(0, 1), model.walk(0, 1));
                Check.due("15: apart" + at, x.apart(0, 1), model.apart(0, 1));
                Check.due("16: areNext" + at, x.areNext(0, 1), model.areNext(0, 1));
                Check.due("18: halvings" + at, x.halvings(0, 1), model.halvings(0, 1));
                Check.due("14: nothing becomes anything", x.bits(0), Double.doubleToRawLongBits(one));
                double middle = Model.between(one, other);
                Check.due("17: middle" + at, x.middle(0, 1, 2), Model.place(middle));
                Check.due("17: bits(2)" + at, x.bits(2), Double.doubleToRawLongBits(middle));
                for (int steps : new int[] {0, 1, 2, 64}) {
                    int want = model.toward(0, 1, steps);
                    Check.due("13: toward" + at + " by " + steps, x.toward(0, 1, steps), want);
                    Check.due("13: bits(0)" + at, x.bits(0), Double.doubleToRawLongBits(model.slots[0]));
                }
            }
        }
    }

    private static void walkEdges() {
        Doubleline x = Check.with(1, 1);
        x.up(1, 64);
        Check.due("14: walk over 64", x.walk(0, 1), 64);
        Check.due("14: walk back over 64", x.walk(1, 0), 64);
        x.up(1, 1);
        Check.due("14: walk over 65", x.walk(0, 1), -1);
        Check.due("14: walk back over 65", x.walk(1, 0), -1);
        x = Check.with(ABOVE, BELOW, 0.0, -0.0);
        Check.due("14: walk over the whole line", x.walk(1, 0), -1);
        Check.due("14: walk from 0 to -0", x.walk(2, 3), 0);
        Check.due("15: apart goes round", x.apart(0, 1), -9007199254740992L);
        Check.due("15: apart goes round the other way", x.apart(1, 0), -9007199254740992L);
        Check.due("16: areNext of 0 and -0", x.areNext(2, 3), false);
    }

    private static void middleEdges() {
        Doubleline x = Check.with(ABOVE, BELOW, Double.MAX_VALUE, -Double.MAX_VALUE, -LEAST, -0.0);
        Check.due("17: middle of both ends", x.middle(0, 1, 7), 0);
        Check.due("17: it is 0", x.bits(7), 0);
        Check.due("17: middle above", x.middle(0, 2, 7), 9218868437227405311L);
        Check.due("17: middle below, rounded down", x.middle(1, 3, 7), -9218868437227405312L);
        Check.due("17: middle of -1 and 0", x.middle(4, 5, 7), -1);
        Check.due("17: middle of -0 and -0", x.middle(5, 5, 7), 0);
        Check.due("17: it is 0, not -0", x.bits(7), 0);
        Check.due("18: halvings from end to end", x.halvings(0, 1), 63);
        Check.due("18: halvings of the same", x.halvings(0, 0), 0);
        Check.due("18: halvings of next ones", x.halvings(0, 2), 0);
    }

    private static void refusals() {
        for (int bad : new int[] {-1, 65, Integer.MIN_VALUE, Integer.MAX_VALUE}) {
            Check.refused("11: up(0, " + bad + ")", SOME, OUT_OF_RANGE, x -> x.up(0, bad));
            Check.refused("12: down(0, " + bad + ")", SOME, OUT_OF_RANGE, x -> x.down(0, bad));
            Check.refused("13: toward(0, 1, " + bad + ")", SOME, OUT_OF_RANGE, x -> x.toward(0, 1, bad));
            Check.refused("11: up(8, " + bad + ")", SOME, NO_SLOT, x -> x.up(8, bad));
            Check.refused("12: down(8, " + bad + ")", SOME, NO_SLOT, x -> x.down(8, bad));
            Check.refused("13: toward(8, 1, " + bad + ")", SOME, NO_SLOT, x -> x.toward(8, 1, bad));
            Check.refused("13: toward(0, 8, " + bad + ")", SOME, NO_SLOT, x -> x.toward(0, 8, bad));
        }
    }

    private static void noSuchSlot() {
        for (int bad : NO_SLOTS) {
            Check.refused("11: up(" + bad + ")", SOME, NO_SLOT, x -> x.up(bad, 1));
            Check.refused("12: down(" + bad + ")", SOME, NO_SLOT, x -> x.down(bad, 1));
            Check.refused("13: toward(" + bad + ", 0)", SOME, NO_SLOT, x -> x.toward(bad, 0, 1));
            Check.refused("13: toward(0, " + bad + ")", SOME, NO_SLOT, x -> x.toward(0, bad, 1));
            Check.refused("14: walk(" + bad + ", 0)", SOME, NO_SLOT, x -> x.walk(bad, 0));
            Check.refused("14: walk(0, " + bad + ")", SOME, NO_SLOT, x -> x.walk(0, bad));
            Check.refused("15: apart(" + bad + ", 0)", SOME, NO_SLOT, x -> x.apart(bad, 0));
            Check.refused("15: apart(0, " + bad + ")", SOME, NO_SLOT, x -> x.apart(0, bad));
            Check.refused("16: areNext(" + bad + ", 0)", SOME, NO_SLOT, x -> x.areNext(bad, 0));
            Check.refused("16: areNext(0, " + bad + ")", SOME, NO_SLOT, x -> x.areNext(0, bad));
            Check.refused("17: middle(" + bad + ", 0, 1)", SOME, NO_SLOT, x -> x.middle(bad, 0, 1));
            Check.refused("17: middle(0, " + bad + ", 1)", SOME, NO_SLOT, x -> x.middle(0, bad, 1));
            Check.refused("17: middle(0, 1, " + bad + ")", SOME, NO_SLOT, x -> x.middle(0, 1, bad));
            Check.refused("18: halvings(" + bad + ", 0)", SOME, NO_SLOT, x -> x.halvings(bad, 0));
            Check.refused("18: halvings(0, " + bad + ")", SOME, NO_SLOT, x -> x.halvings(0, bad));
        }
    }
}
