import java.util.function.Consumer;

/**
 * Each sentence of the promises that names a boundary case, beside the bounds of arguments and the "Throws",
 * which are in ArgumentsTest: the value at the bound, and the one just beyond it.
 */
public final class BoundsTest {
    private static final long MINUS_ZERO = Long.MIN_VALUE;
    private static final long ENDLESS = 9218868437227405312L;
    private static final long ONE = 4607182418800017408L;
    private static final double LEAST = Double.MIN_VALUE;
    private static final double MOST = Double.MAX_VALUE;
    private static final double NORMAL = Double.MIN_NORMAL;
    private static final double ABOVE = Double.POSITIVE_INFINITY;
    private static final double BELOW = Double.NEGATIVE_INFINITY;

    public static void main(String[] args) {
        numbers();
        steps();
        order();
        scaling();
        measuring();
        words();
        figures();
        nothingBecomesAnything();
        lastOfAllCalls();
        Check.finish();
    }

    private static long bitsOf(double x) {
        return Double.doubleToRawLongBits(x);
    }

    // numbers

    private static void numbers() {
        newObject();
        becomesItself();
        kindsOfNumbers();
    }

    /** 1: "eight slots with 0, and no words" */
    private static void newObject() {
        Doubleline x = new Doubleline();
        Check.due("1: least()", x.least(), 0);
        Check.due("1: rank(7)", x.rank(7), 0);
        Check.due("1: hush()", x.hush(), 0);
        Check.due("1: checksum(), 7 times 31 to the power 9", x.checksum(), 185077355124697L);
        Check.due("1: undo()", Check.undone(x), -1);
    }

    /** 4, 5: a slot that becomes its own number, or the opposite of it; the other slot stays otherwise. */
    private static void becomesItself() {
        Doubleline x = Check.with(-0.0, BELOW);
        Check.due("4: copy(0, 0)", x.copy(0, 0), 0);
        Check.due("4: it stays -0", x.bits(0), MINUS_ZERO);
        Check.due("4: copy(0, 7)", x.copy(0, 7), 0);
        Check.due("4: it is -0 too", x.bits(7), MINUS_ZERO);
        Check.due("4: copy(1, 7)", x.copy(1, 7), -ENDLESS);
        Check.due("5: negate(7, 7)", x.negate(7, 7), ENDLESS);
        Check.due("5: negate(7, 0)", x.negate(7, 0), -ENDLESS);
        Check.due("5: the number stays", x.place(7), ENDLESS);
    }

    private static void kindsOfNumbers() {
        kind(0.0, false, true, true);
        kind(LEAST, false, false, true);
        kind(Math.nextDown(NORMAL), false, false, true);
        kind(NORMAL, false, false, false);
        kind(0.5, false, false, false);
        kind(Math.nextDown(1.0), false, false, false);
        kind(1, false, true, false);
        kind(Math.nextUp(1.0), false, false, false);
        kind(0x1p51 + 0.5, false, false, false);
        kind(0x1p52 - 0.5, false, false, false);
        kind(0x1p52, false, true, false);
        kind(0x1p52 + 1, false, true, false);
        kind(MOST, false, true, false);
        kind(ABOVE, true, false, false);
    }

    /** 8, 9, 10: "0, -0, or a whole number; an endless one is none", "smaller than 2 to the power -1022" */
    private static void kind(double number, boolean isEndless, boolean isWhole, boolean isSmall) {
        Doubleline x = Check.with(number, -number);
        for (int i = 0; i < 2; i++) {
            String of = " of " + (i == 0 ? number : -number);
            Check.due("8: isEndless" + of, x.isEndless(i), isEndless);
            Check.due("9: isWhole" + of, x.isWhole(i), isWhole);
            Check.due("10: isSmall" + of, x.isSmall(i), isSmall);
        }
    }

    // steps

    private static void steps() {
        up();
        down();
        toward();
        towardItself();
        walk();
        apart();
        areNext();
        middle();
        middleOfItself();
        halvings();
    }

    /** 11: "0 to 64" steps, "how many of them gave a number that was not the same" */
    private static void up() {
        steppedUp(0.0, 0, 0.0, 0);
        steppedUp(-0.0, 0, -0.0, 0);
        steppedUp(ABOVE, 0, ABOVE, 0);
        steppedUp(0.0, 64, 64 * LEAST, 64);
        steppedUp(-0.0, 64, 64 * LEAST, 64);
        steppedUp(-63 * LEAST, 64, LEAST, 64);
        steppedUp(-64 * LEAST, 64, -0.0, 64);
        steppedUp(-65 * LEAST, 64, -LEAST, 64);
        steppedUp(-3 * LEAST, 2, -LEAST, 2);
        steppedUp(-3 * LEAST, 3, -0.0, 3);
        steppedUp(-3 * LEAST, 4, LEAST, 4);
        steppedUp(MOST, 64, ABOVE, 1);
        steppedUp(Math.nextDown(MOST), 1, MOST, 1);
        steppedUp(Math.nextDown(MOST), 2, ABOVE, 2);
        steppedUp(Math.nextDown(MOST), 3, ABOVE, 2);
        steppedUp(placed(ENDLESS - 63), 64, ABOVE, 63);
        steppedUp(placed(ENDLESS - 64), 64, ABOVE, 64);
        steppedUp(placed(ENDLESS - 65), 64, MOST, 64);
        steppedUp(ABOVE, 64, ABOVE, 0);
        steppedUp(BELOW, 64, -placed(ENDLESS - 64), 64);
    }

    private static void steppedUp(double from, int steps, double want, int changes) {
        Doubleline x = Check.with(from);
        Check.due("11: up(0, " + steps + ") from " + from, x.up(0, steps), changes);
        Check.due("11: bits after up(0, " + steps + ") from " + from, x.bits(0), bitsOf(want));
        Check.due("39: undo() of it", x.undo(), 0);
        Check.due("39: all its steps are taken back", x.bits(0), bitsOf(from));
    }

    /** 12: "0 to 64" steps, "how many of them gave a number that was not the same" */
    private static void down() {
        steppedDown(0.0, 0, 0.0, 0);
        steppedDown(-0.0, 0, -0.0, 0);
        steppedDown(BELOW, 0, BELOW, 0);
        steppedDown(0.0, 64, -64 * LEAST, 64);
        steppedDown(-0.0, 64, -64 * LEAST, 64);
        steppedDown(63 * LEAST, 64, -LEAST, 64);
        steppedDown(64 * LEAST, 64, 0.0, 64);
        steppedDown(65 * LEAST, 64, LEAST, 64);
        steppedDown(3 * LEAST, 2, LEAST, 2);
        steppedDown(3 * LEAST, 3, 0.0, 3);
        steppedDown(3 * LEAST, 4, -LEAST, 4);
        steppedDown(-MOST, 64, BELOW, 1);
        steppedDown(-Math.nextDown(MOST), 2, BELOW, 2);
        steppedDown(-Math.nextDown(MOST), 3, BELOW, 2);
        steppedDown(-placed(ENDLESS - 63), 64, BELOW, 63);
        steppedDown(-placed(ENDLESS - 64), 64, BELOW, 64);
        steppedDown(-placed(ENDLESS - 65), 64, -MOST, 64);
        steppedDown(BELOW, 64, BELOW, 0);
        steppedDown(ABOVE, 64, placed(ENDLESS - 64), 64);
    }

    private static void steppedDown(double from, int steps, double want, int changes) {
        Doubleline x = Check.with(from);
        Check.due("12: down(0, " + steps + ") from " + from, x.down(0, steps), changes);
        Check.due("12: bits after down(0, " + steps + ") from " + from, x.bits(0), bitsOf(want));
        Check.due("39: undo() of it", x.undo(), 0);
        Check.due("39: all its steps are taken back", x.bits(0), bitsOf(from));
    }

    private static double placed(long place) {
        return Model.atPlace(place);
    }

    /** 13: "0 to 64" steps, none of which goes beyond the other number, and the last one may change 0 and -0. */
    private static void toward() {
        steppedToward(0.0, -0.0, 0, 0.0, 0);
        steppedToward(0.0, -0.0, 64, -0.0, 1);
        steppedToward(1, 1, 64, 1, 0);
        steppedToward(LEAST, -0.0, 1, 0.0, 1);
        steppedToward(LEAST, -0.0, 2, -0.0, 2);
        steppedToward(LEAST, -0.0, 3, -0.0, 2);
        steppedToward(-LEAST, 0.0, 1, -0.0, 1);
        steppedToward(-LEAST, 0.0, 2, 0.0, 2);
        steppedToward(-LEAST, LEAST, 64, LEAST, 2);
        steppedToward(63 * LEAST, 0.0, 64, 0.0, 63);
        steppedToward(63 * LEAST, -0.0, 64, -0.0, 64);
        steppedToward(64 * LEAST, -0.0, 64, 0.0, 64);
        steppedToward(-63 * LEAST, 0.0, 64, 0.0, 64);
        steppedToward(-64 * LEAST, 0.0, 64, -0.0, 64);
        steppedToward(-65 * LEAST, 0.0, 64, -LEAST, 64);
        steppedToward(placed(ONE + 63), 1, 64, 1, 63);
        steppedToward(placed(ONE + 64), 1, 64, 1, 64);
        steppedToward(placed(ONE + 65), 1, 64, placed(ONE + 1), 64);
        steppedToward(placed(ENDLESS - 63), ABOVE, 64, ABOVE, 63);
        steppedToward(BELOW, ABOVE, 64, -placed(ENDLESS - 64), 64);
        steppedToward(ABOVE, BELOW, 64, placed(ENDLESS - 64), 64);
    }

    private static void steppedToward(double from, double goal, int steps, double want, int changes) {
        Doubleline x = Check.with(from, goal);
        String call = "13: " + steps + " steps from " + from + " towards " + goal;
        Check.due(call, x.toward(0, 1, steps), changes);
        Check.due(call + ", bits", x.bits(0), bitsOf(want));
        Check.due(call + ", the goal stays", x.bits(1), bitsOf(goal));
        Check.due("39: undo() of it", x.undo(), 0);
        Check.due("39: all its steps are taken back", x.bits(0), bitsOf(from));
    }

    /** 13: "whose number is what it is ahead of the call": also where both slots are the same. */
    private static void towardItself() {
        for (double number : new double[] {0.0, -0.0, LEAST, -1, ABOVE, BELOW}) {
            Doubleline x = Check.with(number);
            Check.due("13: " + number + " towards itself", x.toward(0, 0, 64), 0);
            Check.due("13: it stays", x.bits(0), bitsOf(number));
        }
    }

    /** 14: "how many, -1 if more than 64" */
    private static void walk() {
        walked(0.0, -0.0, 0);
        walked(1, 1, 0);
        walked(ABOVE, ABOVE, 0);
        walked(1, placed(ONE + 1), 1);
        walked(1, placed(ONE + 63), 63);
        walked(1, placed(ONE + 64), 64);
        walked(1, placed(ONE + 65), -1);
        walked(-1, 1, -1);
        walked(-32 * LEAST, 32 * LEAST, 64);
        walked(-32 * LEAST, 33 * LEAST, -1);
        walked(-0.0, 64 * LEAST, 64);
        walked(-0.0, 65 * LEAST, -1);
        walked(ABOVE, placed(ENDLESS - 64), 64);
        walked(ABOVE, placed(ENDLESS - 65), -1);
        walked(ABOVE, -placed(0x000FFFFFFFFFFFFFL), -1); // 2 to the power 63, less 1, apart
        walked(ABOVE, -placed(0x0010000000000000L), -1); // 2 to the power 63 apart
        walked(ABOVE, BELOW, -1);
    }

    private static void walked(double one, double other, int want) {
        Doubleline x = Check.with(one, other);
        Check.due("14: walk from " + one + " to " + other, x.walk(0, 1), want);
        Check.due("14: walk from " + other + " to " + one, x.walk(1, 0), want);
        Check.due("14: walk to itself", x.walk(0, 0), 0);
    }

    /** 15: "the greater place less the other one, a long that goes round" */
    private static void apart() {
        distance(0.0, -0.0, 0);
        distance(ABOVE, ABOVE, 0);
        distance(LEAST, -LEAST, 2);
        distance(1, -1, 2 * ONE); // goes round too
        distance(ABOVE, 0.0, ENDLESS);
        distance(-0.0, BELOW, ENDLESS);
        distance(ABOVE, -placed(0x000FFFFFFFFFFFFEL), Long.MAX_VALUE - 1);
        distance(ABOVE, -placed(0x000FFFFFFFFFFFFFL), Long.MAX_VALUE);
        distance(ABOVE, -placed(0x0010000000000000L), Long.MIN_VALUE);
        distance(ABOVE, -placed(0x0010000000000001L), Long.MIN_VALUE + 1);
        distance(ABOVE, BELOW, -9007199254740992L);
    }

    private static void distance(double one, double other, long want) {
        Doubleline x = Check.with(one, other);
        Check.due("15: apart of " + one + " and " + other, x.apart(0, 1), want);
        Check.due("15: apart of " + other + " and " + one, x.apart(1, 0), want);
        Check.due("15: apart of the same slot", x.apart(1, 1), 0);
    }

    /** 16: "whether their places are one apart": not none, not two. */
    private static void areNext() {
        next(0.0, -0.0, false);
        next(0.0, LEAST, true);
        next(-0.0, LEAST, true);
        next(0.0, -LEAST, true);
        next(-0.0, -LEAST, true);
        next(0.0, 2 * LEAST, false);
        next(LEAST, -LEAST, false);
        next(1, 1, false);
        next(1, Math.nextUp(1.0), true);
        next(1, placed(ONE + 2), false);
        next(1, -Math.nextUp(1.0), false);
        next(NORMAL, Math.nextDown(NORMAL), true);
        next(MOST, ABOVE, true);
        next(-MOST, BELOW, true);
        next(Math.nextDown(MOST), ABOVE, false);
        next(ABOVE, BELOW, false);
        next(ABOVE, ABOVE, false);
    }

    private static void next(double one, double other, boolean want) {
        Doubleline x = Check.with(one, other);
        Check.due("16: areNext of " + one + " and " + other, x.areNext(0, 1), want);
        Check.due("16: areNext of " + other + " and " + one, x.areNext(1, 0), want);
    }

    /** 17: "half the sum of both places, rounded down": below 0 too, and where the sum is more than a long. */
    private static void middle() {
        between(0.0, LEAST, 0.0);
        between(-0.0, LEAST, 0.0);
        between(0.0, -LEAST, -LEAST);
        between(-0.0, -LEAST, -LEAST);
        between(LEAST, 2 * LEAST, LEAST);
        between(-LEAST, -2 * LEAST, -2 * LEAST);
        between(LEAST, 3 * LEAST, 2 * LEAST);
        between(-LEAST, -3 * LEAST, -2 * LEAST);
        between(-LEAST, LEAST, 0.0);
        between(-LEAST, 2 * LEAST, 0.0);
        between(-2 * LEAST, LEAST, -LEAST);
        between(0.0, -0.0, 0.0);
        between(-0.0, -0.0, 0.0);
        between(ABOVE, ABOVE, ABOVE);
        between(BELOW, BELOW, BELOW);
        between(ABOVE, MOST, MOST);
        between(BELOW, -MOST, BELOW);
        between(BELOW, -Math.nextDown(MOST), -MOST);
        between(MOST, MOST, MOST);
        between(-MOST, -MOST, -MOST);
        between(ABOVE, BELOW, 0.0);
        between(MOST, BELOW, -LEAST);
        between(ABOVE, -MOST, 0.0);
        between(0.0, ABOVE, placed(ENDLESS / 2));
        between(ABOVE, 1, placed(6913025428013711360L));
        between(-1, BELOW, -placed(6913025428013711360L));
    }

    private static void between(double one, double other, double want) {
        Doubleline x = Check.with(one, other);
        String call = "17: the middle of " + one + " and " + other;
        Check.due(call, x.middle(0, 1, 2), Model.place(want));
        Check.due(call + ", bits", x.bits(2), bitsOf(want));
        Check.due(call + ", turned", x.middle(1, 0, 3), Model.place(want));
        Check.due(call + ", turned, bits", x.bits(3), bitsOf(want));
        Check.due(call + ", the one stays", x.bits(0), bitsOf(one));
        Check.due(call + ", the other one stays", x.bits(1), bitsOf(other));
    }

    /** 17: the slot that becomes it may be one of both: its number ahead of the call counts. */
    private static void middleOfItself() {
        Doubleline x = Check.with(5 * LEAST, 9 * LEAST);
        Check.due("17: middle(0, 1, 0)", x.middle(0, 1, 0), 7);
        Check.due("17: middle(0, 1, 1)", x.middle(0, 1, 1), 8);
        Check.due("17: middle(1, 1, 1)", x.middle(1, 1, 1), 8);
        Check.due("17: the one stays", x.place(0), 7);
    }

    /** 18: "until their places are at most one apart" */
    private static void halvings() {
        halved(0.0, -0.0, 0, 0);
        halved(1, 1, 0, 0);
        halved(0.0, LEAST, 0, 0);
        halved(-0.0, -LEAST, 0, 0);
        halved(0.0, 2 * LEAST, 1, 1);
        halved(-LEAST, LEAST, 1, 1);
        halved(0.0, 3 * LEAST, 2, 1); // rounded down: 0, 1, 2, but 3, 1
        halved(-3 * LEAST, 0.0, 2, 1);
        halved(-LEAST, 2 * LEAST, 2, 1);
        halved(0.0, 4 * LEAST, 2, 2);
        halved(0.0, 5 * LEAST, 3, 2);
        halved(0.0, 64 * LEAST, 6, 6);
        halved(0.0, 65 * LEAST, 7, 6);
        halved(MOST, ABOVE, 0, 0);
        halved(BELOW, -MOST, 0, 0);
        halved(Math.nextDown(MOST), ABOVE, 1, 1);
        halved(BELOW, ABOVE, 64, 63);
        halved(-MOST, MOST, 64, 63);
    }

    private static void halved(double lesser, double greater, int upwards, int downwards) {
        Doubleline x = Check.with(lesser, greater);
        Check.due("18: halvings from " + lesser + " to " + greater, x.halvings(0, 1), upwards);
        Check.due("18: halvings from " + greater + " to " + lesser, x.halvings(1, 0), downwards);
        Check.due("18: nothing becomes anything", x.bits(0), bitsOf(lesser));
        Check.due("18: nothing becomes anything, the other one", x.bits(1), bitsOf(greater));
    }

    // order

    private static void order() {
        compare();
        least();
        rank();
    }

    /** 19: "-1, 0 or 1, as that of the one is less, the same, or greater" */
    private static void compare() {
        compared(0.0, -0.0, 0);
        compared(0.0, LEAST, -1);
        compared(-LEAST, -0.0, -1);
        compared(1, Math.nextUp(1.0), -1);
        compared(-1, -Math.nextDown(1.0), -1);
        compared(1, 1, 0);
        compared(MOST, ABOVE, -1);
        compared(BELOW, -MOST, -1);
        compared(ABOVE, ABOVE, 0);
        compared(BELOW, BELOW, 0);
        compared(BELOW, ABOVE, -1);
        compared(-MOST, MOST, -1);
    }

    private static void compared(double one, double other, int want) {
        Doubleline x = Check.with(one, other);
        Check.due("19: compare of " + one + " and " + other, x.compare(0, 1), want);
        Check.due("19: compare of " + other + " and " + one, x.compare(1, 0), -want);
    }

    /** 20: "the first one of several" */
    private static void least() {
        Check.due("20: of eight times the same", new Doubleline().least(), 0);
        Check.due("20: the endless one below 0", Check.with(0, 0, 0, BELOW, 0, -MOST, BELOW).least(), 3);
        Check.due("20: the first and the last", Check.with(-1, 0, 0, 0, 0, 0, 0, -1).least(), 0);
        Check.due("20: the last two", Check.with(1, 0, 1, 0, 1, 0, -1, -1).least(), 6);
        Check.due("20: the last alone", Check.with(0, 0, 0, 0, 0, 0, 0, -LEAST).least(), 7);
        Check.due("20: 0 ahead of -0", Check.with(1, 0.0, -0.0, 1, 1, 1, 1, 1).least(), 1);
        Check.due("20: -0 ahead of 0", Check.with(1, -0.0, 0.0, 1, 1, 1, 1, 1).least(), 1);
        Check.due("20: next to each other", Check.with(1, 1, 1, 1, 1, Math.nextDown(1.0), 1, 1).least(), 5);
        double[] above = {ABOVE, ABOVE, ABOVE, ABOVE, ABOVE, ABOVE, ABOVE, ABOVE};
        Check.due("20: all are endless", Check.with(above).least(), 0);
        above[6] = MOST;
        Check.due("20: all but one are endless", Check.with(above).least(), 6);
    }

    /** 21: "how many slots have a lesser place": none, seven, and those of the same place do not count. */
    private static void rank() {
        double[] numbers = {BELOW, -MOST, -LEAST, 0.0, LEAST, 1, MOST, ABOVE};
        Doubleline x = Check.with(numbers);
        for (int i = 0; i < 8; i++) {
            Check.due("21: rank of " + numbers[i], x.rank(i), i);
        }
        x = Check.with(0.0, -0.0, 0.0, -0.0, LEAST, LEAST, -LEAST, -LEAST);
        int[] ranks = {2, 2, 2, 2, 6, 6, 0, 0};
        for (int i = 0; i < 8; i++) {
            Check.due("21: rank(" + i + ") beside the same", x.rank(i), ranks[i]);
        }
    }

    // scaling

    private static void scaling() {
        scaleToItself();
        isKept();
        isOne();
        leadAndTail();
        power();
        unitAndPowerOfAnother();
    }

    /** 22: "-4200 to 4200", and the slot that becomes it may be the same. */
    private static void scaleToItself() {
        Doubleline x = Check.with(1, -1);
        Check.due("22: scale(0, 4200, 0)", x.scale(0, 4200, 0), ENDLESS);
        Check.due("22: scale(0, -4200, 0)", x.scale(0, -4200, 0), ENDLESS);
        Check.due("22: scale(1, -4200, 1)", x.scale(1, -4200, 1), 0);
        Check.due("22: it is -0", x.bits(1), MINUS_ZERO);
        Check.due("22: scale(1, 4200, 1)", x.scale(1, 4200, 1), 0);
        Check.due("22: it stays -0", x.bits(1), MINUS_ZERO);
    }

    /** 23: at each end of the line, the greatest power that is kept, and the next one. */
    private static void isKept() {
        kept(1, 1023, true);
        kept(1, 1024, false);
        kept(1, -1074, true);
        kept(1, -1075, false);
        kept(3, -1074, true);
        kept(3, -1075, false);
        kept(Math.nextUp(1.0), -1022, true);
        kept(Math.nextUp(1.0), -1023, false);
        kept(Math.nextDown(1.0), 1024, true);
        kept(Math.nextDown(1.0), 1025, false);
        kept(MOST, 0, true);
        kept(MOST, 1, false);
        kept(LEAST, 2097, true);
        kept(LEAST, 2098, false);
        kept(LEAST, -1, false);
        for (int k : new int[] {-4200, 4200}) {
            kept(0.0, k, true);
            kept(ABOVE, k, true);
            kept(LEAST, k, false);
            kept(MOST, k, false);
            kept(1, k, false);
        }
    }

    private static void kept(double number, int k, boolean want) {
        Doubleline x = Check.with(number, -number);
        Check.due("23: isKept of " + number + " by " + k, x.isKept(0, k), want);
        Check.due("23: isKept of -" + number + " by " + k, x.isKept(1, k), want);
        Check.due("23: the number stays", x.bits(1), bitsOf(-number));
    }

    /** 24: "-2100 to 2100" each, so that the sum is -4200 to 4200 */
    private static void isOne() {
        one(1, 2100, 2100, true);
        one(1, -2100, -2100, true);
        one(1, 2100, -2100, false);
        one(1, -2100, 2100, false);
        one(1, 1023, -1023, true);
        one(1, 1024, -1024, false);
        one(1, 1023, 1, true);
        one(1, -1074, 1074, true);
        one(1, -1075, 1075, false);
        one(1, -2000, -2000, true);
        one(LEAST, 2097, -2097, true);
        one(LEAST, 2098, -2098, false);
        one(LEAST, 2100, 2100, true);
        one(LEAST, -1, 1, false);
        one(LEAST, 1, -1, true);
        one(3 * LEAST, -1, -1, true);
        one(7 * LEAST, -1, -1, true);
        one(5 * LEAST, -1, -2, false); // 2, 0, but five eighths are nearest to 1
        one(11 * LEAST, -1, -2, false); // 6, 2, but eleven eighths are nearest to 1
        one(0.0, 2100, 2100, true);
        one(0.0, -2100, 2100, true);
        one(ABOVE, -2100, -2100, true);
        one(ABOVE, -2100, 2100, true);
    }

    private static void one(double number, int j, int k, boolean want) {
        Doubleline x = Check.with(number, -number);
        Check.due("24: isOne of " + number + " by " + j + ", " + k, x.isOne(0, j, k), want);
        Check.due("24: isOne of -" + number + " by " + j + ", " + k, x.isOne(1, j, k), want);
        Check.due("24: the number stays", x.bits(1), bitsOf(-number));
    }

    /** 27, 28: "that, -1074 to 1023" */
    private static void leadAndTail() {
        led(LEAST, -1074, -1074);
        led(2 * LEAST, -1073, -1073);
        led(3 * LEAST, -1073, -1074);
        led(Math.nextDown(NORMAL), -1023, -1074);
        led(NORMAL, -1022, -1022);
        led(Math.nextUp(NORMAL), -1022, -1074);
        led(2 * NORMAL, -1021, -1021);
        led(Math.nextUp(2 * NORMAL), -1021, -1073);
        led(Math.nextDown(1.0), -1, -53);
        led(1, 0, 0);
        led(Math.nextUp(1.0), 0, -52);
        led(6, 2, 1);
        led(Math.nextDown(0x1p1023), 1022, 970);
        led(0x1p1023, 1023, 1023);
        led(0x1.8p1023, 1023, 1022);
        led(MOST, 1023, 971);
    }

    private static void led(double number, int lead, int tail) {
        Doubleline x = Check.with(number, -number);
        for (int i = 0; i < 2; i++) {
            Check.due("27: lead of " + number + ", " + i, x.lead(i), lead);
            Check.due("28: tail of " + number + ", " + i, x.tail(i), tail);
        }
    }

    /** 29: "the greatest power of 2 that is not above the size of a number" */
    private static void power() {
        power(LEAST, LEAST);
        power(3 * LEAST, 2 * LEAST);
        power(4 * LEAST, 4 * LEAST);
        power(Math.nextDown(NORMAL), NORMAL / 2);
        power(NORMAL, NORMAL);
        power(Math.nextDown(2 * NORMAL), NORMAL);
        power(Math.nextDown(1.0), 0.5);
        power(1, 1);
        power(Math.nextUp(1.0), 1);
        power(0x1p1023, 0x1p1023);
        power(Math.nextDown(0x1p1023), 0x1p1022);
        power(MOST, 0x1p1023);
    }

    private static void power(double number, double want) {
        Doubleline x = Check.with(number, -number);
        for (int i = 0; i < 2; i++) {
            Check.due("29: power of " + number + ", " + i, x.power(i, i), Model.place(want));
            Check.due("29: its bits", x.bits(i), bitsOf(want));
        }
    }

    /** 26, 29: the slot that becomes it may be another one, whose number does not count. */
    private static void unitAndPowerOfAnother() {
        Doubleline x = Check.with(-3, ABOVE, 0.0);
        Check.due("26: unit(0, 1)", x.unit(0, 1), bitsOf(0x1p-51));
        Check.due("26: bits(1)", x.bits(1), bitsOf(0x1p-51));
        Check.due("29: power(0, 2)", x.power(0, 2), bitsOf(2));
        Check.due("29: bits(2)", x.bits(2), bitsOf(2));
        Check.due("29: the number stays", x.bits(0), bitsOf(-3));
    }

    // measuring

    private static void measuring() {
        grains();
        gap();
        gapBeyondDoubles();
        compareGaps();
        compareGapsOfEachExponent();
    }

    /** 30: "1 to 1000000" */
    private static void grains() {
        for (double number : new double[] {0.0, -0.0, LEAST, -1, MOST, -MOST}) {
            Check.due("30: grains of " + number + ", modulo 1", Check.with(number).grains(0, 1), 0);
        }
        Doubleline x = Check.with(-LEAST, 999999 * LEAST, -1000000 * LEAST, 1000001 * LEAST, NORMAL, -NORMAL);
        Check.due("30: one grain, modulo 2", x.grains(0, 2), 1);
        Check.due("30: one grain, modulo 1000000", x.grains(0, 1000000), 1);
        Check.due("30: just below the modulus", x.grains(1, 1000000), 999999);
        Check.due("30: just the modulus", x.grains(2, 1000000), 0);
        Check.due("30: just above the modulus", x.grains(3, 1000000), 1);
        Check.due("30: 2 to the power 52", x.grains(4, 1000000), 370496);
        Check.due("30: the size of what is below 0", x.grains(5, 1000000), 370496);
        Check.due("30: 2 to the power 52, modulo 999983", x.grains(4, 999983), (int) ((1L << 52) % 999983));
        Check.due("30: an even count, modulo 2", x.grains(4, 2), 0);
    }

    /** 31: "how many the greater one has more, exactly", on both sides of 0, whichever comes first. */
    private static void gap() {
        gap(0.0, -0.0, 1000000, 0);
        gap(1, 1, 1000000, 0);
        gap(MOST, -MOST, 1, 0);
        gap(0.0, LEAST, 1, 0);
        gap(0.0, LEAST, 2, 1);
        gap(-0.0, -LEAST, 1000000, 1);
        gap(-LEAST, LEAST, 2, 0);
        gap(-LEAST, LEAST, 3, 2);
        gap(-LEAST, LEAST, 1000000, 2);
        gap(-LEAST, -3 * LEAST, 1000000, 2);
        gap(-500000 * LEAST, 499999 * LEAST, 1000000, 999999);
        gap(-500000 * LEAST, 500000 * LEAST, 1000000, 0);
        gap(-500000 * LEAST, 500001 * LEAST, 1000000, 1);
        gap(1000003 * LEAST, 4 * LEAST, 1000000, 999999); // the rest of the greater one is the lesser rest
        gap(NORMAL, Math.nextDown(NORMAL), 1000000, 1);
        gap(2 * NORMAL, Math.nextDown(2 * NORMAL), 1000000, 1);
        gap(2 * NORMAL, Math.nextUp(2 * NORMAL), 1000000, 2);
    }

    /** 31: "exactly": where a double, or a long, could not hold how many there are. */
    private static void gapBeyondDoubles() {
        java.math.BigInteger modulus = java.math.BigInteger.valueOf(999983);
        int most = Model.grainsOf(MOST).mod(modulus).intValue();
        gap(MOST, 0.0, 999983, most);
        gap(MOST, LEAST, 999983, most - 1);
        gap(MOST, -LEAST, 999983, most + 1);
        gap(MOST, -MOST, 999983, 2 * most % 999983);
    }

    private static void gap(double one, double other, int modulus, int want) {
        Doubleline x = Check.with(one, other);
        String call = "31: gap of " + one + " and " + other + ", modulo " + modulus;
        Check.due(call, x.gap(0, 1, modulus), want);
        Check.due(call + ", turned", x.gap(1, 0, modulus), want);
    }

    /** 32: "nearer to each other, as near, or farther", "exactly": a grain counts beside whatever. */
    private static void compareGaps() {
        gaps(0.0, -0.0, 1, 1, 0);
        gaps(0.0, LEAST, -0.0, -LEAST, 0);
        gaps(0.0, LEAST, LEAST, LEAST, 1);
        gaps(-LEAST, LEAST, 0.0, 2 * LEAST, 0);
        gaps(-LEAST, LEAST, 0.0, 3 * LEAST, -1);
        gaps(MOST, -MOST, -MOST, MOST, 0);
        gaps(MOST, -MOST, MOST, -Math.nextDown(MOST), 1);
        gaps(MOST, LEAST, MOST, 0.0, -1);
        gaps(MOST, -LEAST, MOST, -0.0, 1);
        gaps(MOST, 0.0, 0.0, -MOST, 0);
        gaps(MOST, MOST, LEAST, -0.0, -1);
        gaps(MOST, Math.nextDown(MOST), 0.0, 0x1p971, 0);
        gaps(MOST, Math.nextDown(MOST), -LEAST, 0x1p971, -1);
        gaps(MOST, Math.nextDown(MOST), LEAST, 0x1p971, 1);
        gaps(1, Math.nextUp(1.0), 1, Math.nextDown(1.0), 1);
        gaps(NORMAL, Math.nextUp(NORMAL), 0.0, LEAST, 0);
        gaps(0x1p1023, 0.0, MOST, 0x1p1023, 1);
    }

    private static void gaps(double one, double other, double third, double fourth, int want) {
        Doubleline x = Check.with(one, other, third, fourth);
        String call = "32: " + one + " and " + other + ", " + third + " and " + fourth;
        Check.due(call, x.compareGaps(0, 1, 2, 3), want);
        Check.due(call + ", each two turned", x.compareGaps(1, 0, 3, 2), want);
        Check.due(call + ", the first two turned", x.compareGaps(1, 0, 2, 3), want);
        Check.due(call + ", the last two turned", x.compareGaps(0, 1, 3, 2), want);
        Check.due(call + ", the other way round", x.compareGaps(2, 3, 0, 1), -want);
        Check.due(call + ", with themselves", x.compareGaps(0, 1, 1, 0), 0);
    }

    /** 32: "exactly": one unit more or less counts, and one grain beside it, whatever the exponent is. */
    private static void compareGapsOfEachExponent() {
        for (int e = -1022; e <= 1023; e++) {
            double number = Math.scalb(1.5, e);
            double above = Math.nextUp(number);
            Doubleline x = Check.with(number, above, -number, LEAST, Math.ulp(number));
            String at = ", at the exponent " + e;
            Check.due("32: a unit more" + at, x.compareGaps(1, 5, 0, 5), 1);
            Check.due("32: a unit less" + at, x.compareGaps(0, 2, 1, 2), -1);
            Check.due("32: just a unit" + at, x.compareGaps(0, 1, 4, 5), 0);
            Check.due("32: a grain more" + at, x.compareGaps(2, 3, 0, 5), 1);
            Check.due("32: a grain less" + at, x.compareGaps(0, 3, 2, 5), -1);
        }
    }

    // words

    private static void words() {
        sayAndHush();
        playAtTheEnds();
        homeWithLosses();
        lossesWhereTheyAre();
    }

    /** 33, 34: "how many words there are", "how many there were" */
    private static void sayAndHush() {
        Doubleline x = new Doubleline();
        Check.due("34: hush() of none", x.hush(), 0);
        Check.due("33: the first word", x.say('n', 0), 1);
        Check.due("34: hush() of one", x.hush(), 1);
        Check.due("34: hush() again", x.hush(), 0);
        for (int i = 1; i <= 40; i++) {
            Check.due("33: word " + i, x.say('d', i % 16), i);
        }
        Check.due("34: hush() of 40", x.hush(), 40);
        Check.due("33: the first word again", x.say('u', 15), 1);
        Check.due("33: the second word", x.say('u', 0), 2);
    }

    /** 35, 36: what is played stays at an endless one, and the slot may be the same. */
    private static void playAtTheEnds() {
        Doubleline x = Check.with(MOST, -MOST, 0.0, -0.0);
        x.say('u', 2);
        Check.due("35: u2 on the greatest", x.play(0, 0), ENDLESS);
        Check.due("36: u2 turned round", x.playBack(0, 0), ENDLESS - 2);
        Check.due("36: u2 turned round on the least", x.playBack(1, 1), -ENDLESS);
        Check.due("35: u2 on what that gave", x.play(1, 1), -ENDLESS + 2);
        x.hush();
        x.say('x', -40);
        Check.due("35: x-40 on 0", x.play(2, 2), 0);
        Check.due("35: its bits", x.bits(2), 0);
        Check.due("35: x-40 on -0", x.play(3, 3), 0);
        Check.due("35: its bits are those of -0", x.bits(3), MINUS_ZERO);
        x.say('n', 0);
        Check.due("35: x-40 n0 on -0", x.play(3, 3), 0);
        Check.due("35: its bits are those of 0", x.bits(3), 0);
    }

    /** 37: "gives the same number": also where words lose something, and the others make up for it. */
    private static void homeWithLosses() {
        Doubleline x = Check.with(2 * LEAST, 3 * LEAST, MOST, -0.0);
        x.say('x', -1);
        Check.due("37: 2, 1, 2 is home", x.isHome(0), true);
        Check.due("37: 3, 2, 4 is not", x.isHome(1), false);
        x.hush();
        x.say('u', 1);
        x.say('u', 1);
        Check.due("37: beyond the endless one is not home", x.isHome(2), false);
        Check.due("38: just the second step loses something", x.losses(2), 1);
        x.hush();
        x.say('u', 1);
        x.say('n', 0);
        x.say('u', 1);
        Check.due("37: -0, 1, -1, -0 and back is not home", x.isHome(3), false);
        Check.due("38: just the first step loses something", x.losses(3), 1);
    }

    /** 38: "at the number that each one is done to": not all at the first one. */
    private static void lossesWhereTheyAre() {
        Doubleline x = Check.with(4 * LEAST, ABOVE);
        x.say('x', -1);
        x.say('x', -1);
        Check.due("38: 4, 2, 1", x.losses(0), 0);
        x.say('x', -1);
        Check.due("38: 4, 2, 1, 0", x.losses(0), 1);
        x.say('x', -1);
        Check.due("38: 4, 2, 1, 0, 0", x.losses(0), 1);
        x.hush();
        x.say('d', 1);
        x.say('u', 1);
        Check.due("38: down from the endless one and up", x.losses(1), 0);
        x.say('u', 1);
        Check.due("38: and up again", x.losses(1), 1);
    }

    // figures

    private static void figures() {
        share();
        meanExponent();
        checksum();
        isSound();
    }

    /** 40: "smaller than 2 to the power -1022": none to all of the eight slots. */
    private static void share() {
        double[] small = {0.0, -0.0, LEAST, -LEAST, Math.nextDown(NORMAL), -Math.nextDown(NORMAL), NORMAL / 2, 0.0};
        double[] others = {NORMAL, -NORMAL, ABOVE, BELOW, 1, -1, MOST, -MOST};
        for (int count = 0; count <= 8; count++) {
            double[] numbers = others.clone();
            System.arraycopy(small, 0, numbers, 0, count);
            Check.dueDouble("40: share() of " + count, Check.with(numbers).share(), count / 8f);
        }
    }

    /** 41: all exponents the least, all the greatest, and a mean that is not whole, on both sides of 0. */
    private static void meanExponent() {
        Check.dueDouble("41: all of 0", new Doubleline().meanExponent(), -1023);
        double[] above = {ABOVE, BELOW, ABOVE, BELOW, ABOVE, BELOW, ABOVE, BELOW};
        Check.dueDouble("41: all endless", Check.with(above).meanExponent(), 1024);
        Check.dueDouble("41: 1", Check.with(2, 1, 1, 1, 1, 1, 1, 1).meanExponent(), 0.125);
        Check.dueDouble("41: -1", Check.with(0.5, 1, 1, 1, 1, 1, 1, 1).meanExponent(), -0.125);
        Check.dueDouble("41: 15", Check.with(4, 4, 4, 4, 4, 4, 4, 2).meanExponent(), 1.875);
        Check.dueDouble("41: the last", Check.with(1, 1, 1, 1, 1, 1, 1, NORMAL).meanExponent(), -127.75);
    }

    /** 42: "a long that goes round" */
    private static void checksum() {
        Doubleline x = new Doubleline();
        long sum = 7;
        for (int i = 0; i < 8; i++) {
            x.end(i, false);
            sum = 31 * sum + bitsOf(BELOW);
        }
        Check.due("42: all endless below 0, no words", x.checksum(), 31 * sum);
        for (int i = 0; i < 40; i++) {
            x.say('x', -40);
        }
        sum = 31 * sum + 40;
        for (int i = 0; i < 40; i++) {
            sum = 31 * (31 * sum + 'x') - 40;
        }
        Check.due("42: 40 words", x.checksum(), sum);
        x.hush();
        x.set(0, 0, 0);
        x.negate(0, 0);
        long withMinusZero = x.checksum();
        x.set(0, 0, 0);
        Check.due("42: -0 counts by its bits", withMinusZero - x.checksum(), MINUS_ZERO); // times an odd number
    }

    /** 43: the theorem holds at the ends, at 0 and -0, with no words, with 40, and where they lose something. */
    private static void isSound() {
        double[] numbers = {0.0, -0.0, LEAST, -LEAST, MOST, -MOST, ABOVE, BELOW};
        Doubleline x = Check.with(numbers);
        Check.due("43: with no words", x.isSound(), true);
        for (int i = 0; i < 40; i++) {
            x.say(i % 2 == 0 ? 'u' : 'x', i % 2 == 0 ? 15 : -40);
        }
        Check.due("43: with 40 words that lose something", x.isSound(), true);
        x.hush();
        for (int i = 0; i < 40; i++) {
            x.say('n', 0);
        }
        Check.due("43: with 40 words that lose nothing", x.isSound(), true);
    }

    /** 14, 18 and all calls that only answer: "nothing becomes anything", and nothing is kept. */
    private static void nothingBecomesAnything() {
        stays("6: place", x -> x.place(0));
        stays("7: bits", x -> x.bits(1));
        stays("8: isEndless", x -> x.isEndless(2));
        stays("9: isWhole", x -> x.isWhole(0));
        stays("10: isSmall", x -> x.isSmall(1));
        stays("14: walk", x -> x.walk(0, 1));
        stays("15: apart", x -> x.apart(2, 3));
        stays("16: areNext", x -> x.areNext(0, 1));
        stays("18: halvings", x -> x.halvings(2, 3));
        stays("19: compare", x -> x.compare(0, 1));
        stays("20: least", x -> x.least());
        stays("21: rank", x -> x.rank(7));
        stays("23: isKept", x -> x.isKept(0, -4200));
        stays("24: isOne", x -> x.isOne(0, 2100, -2100));
        stays("25: exponent", x -> x.exponent(2));
        stays("27: lead", x -> x.lead(0));
        stays("28: tail", x -> x.tail(0));
        stays("30: grains", x -> x.grains(0, 1000000));
        stays("31: gap", x -> x.gap(0, 1, 1000000));
        stays("32: compareGaps", x -> x.compareGaps(0, 1, 6, 7));
        stays("37: isHome", x -> x.isHome(0));
        stays("38: losses", x -> x.losses(0));
        stays("40: share", x -> x.share());
        stays("41: meanExponent", x -> x.meanExponent());
        stays("42: checksum", x -> x.checksum());
        stays("43: isSound", x -> x.isSound());
    }

    private static void stays(String name, Consumer<Doubleline> call) {
        Doubleline few = States.SOME.get();
        call.accept(few);
        Check.sameState(name + ", some kept", few, States.SOME.get());
        Doubleline full = States.FULL.get();
        call.accept(full);
        Check.sameState(name + ", eight kept", full, States.FULL.get());
    }

    /** "An object is used for at most 512 calls": the last ones of them answer as the first ones do. */
    private static void lastOfAllCalls() {
        Doubleline x = new Doubleline();
        for (int i = 1; i <= 503; i++) {
            Check.due("512 calls: set " + i, x.set(i % 8, i % 127, 0), i % 127);
        }
        for (int i = 503; i > 495; i--) {
            Check.due("512 calls: undo of set " + i, x.undo(), i % 8);
        }
        Check.due("512 calls: the last one", x.place(7), 495 % 127);

        x = new Doubleline();
        x.set(0, 3, 128);
        for (int i = 1; i <= 40; i++) {
            x.say('u', 1);
        }
        for (int i = 42; i <= 512; i++) {
            Check.due("512 calls: play " + i, x.play(0, 1), bitsOf(3) + 40);
        }
    }
}
