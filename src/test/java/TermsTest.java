import java.util.function.Consumer;

/** Each sentence of "Terms" that names a boundary case has a test here, under its words. */
public final class TermsTest {
    private static final long MINUS_ZERO = Long.MIN_VALUE;
    private static final long ENDLESS = 9218868437227405312L;
    private static final long ONE = 4607182418800017408L;
    private static final double LEAST = Double.MIN_VALUE;
    private static final double MOST = Double.MAX_VALUE;
    private static final double NORMAL = Double.MIN_NORMAL;
    private static final double ABOVE = Double.POSITIVE_INFINITY;
    private static final double BELOW = Double.NEGATIVE_INFINITY;

    public static void main(String[] args) {
        numbers();
        handedNumbers();
        steps();
        stepsTowards();
        scaling();
        exponentsAndUnits();
        grains();
        words();
        undoing();
        Check.finish();
    }

    private static long bitsOf(double x) {
        return Double.doubleToRawLongBits(x);
    }

    // part 1

    private static void numbers() {
        zerosHaveThePlaceZero();
        theLeastNumberAboveZero();
        theEndlessOnes();
        placesBelowZeroAreNegated();
        theNumberOfThePlaceZero();
        zeroAndMinusZeroAreNotTheSame();
        opposites();
        slotsAtFirst();
    }

    /** "There are 0 and -0, whose place is 0." */
    private static void zerosHaveThePlaceZero() {
        Doubleline x = new Doubleline();
        Check.due("part 1: the place of 0", x.place(0), 0);
        Check.due("part 1: the bits of 0", x.bits(0), 0);
        Check.due("part 1: the place that becoming -0 answers", x.negate(0, 1), 0);
        Check.due("part 1: the place of -0", x.place(1), 0);
        Check.due("part 1: the bits of -0", x.bits(1), MINUS_ZERO);
        Check.due("part 1: 0 is not less than -0", x.compare(0, 1), 0);
    }

    /** "the least number above 0, 2 to the power -1074, has the place 1" */
    private static void theLeastNumberAboveZero() {
        Doubleline x = new Doubleline();
        Check.due("part 1: the least number above 0", x.set(0, 1, 0), 1);
        Check.due("part 1: its lead", x.lead(0), -1074);
        Check.due("part 1: the next one", x.set(1, 2, 0), 2);
        Check.due("part 1: half of the least one is none above 0", x.scale(0, -1, 2), 0);
    }

    /** "the number 1 has 4607182418800017408, the endless one above 0 has 9218868437227405312" */
    private static void theEndlessOnes() {
        Doubleline x = new Doubleline();
        Check.due("part 1: the place of 1", x.set(0, 1, 128), ONE);
        Check.due("part 1: the place of the endless one above 0", x.end(1, true), ENDLESS);
        Check.due("part 1: that of the one below 0", x.end(2, false), -ENDLESS);
        x.down(1, 1);
        x.up(2, 1);
        Check.due("part 1: the greatest one that is not endless", x.place(1), ENDLESS - 1);
        Check.due("part 1: it is not endless", x.isEndless(1), false);
        Check.due("part 1: the least one that is not endless", x.place(2), -ENDLESS + 1);
        Check.due("part 1: it is not endless either", x.isEndless(2), false);
    }

    /** "of one below 0 that of its opposite, negated" */
    private static void placesBelowZeroAreNegated() {
        Doubleline x = new Doubleline();
        Check.due("part 1: the greatest one below 0", x.set(0, -1, 0), -1);
        Check.due("part 1: its bits", x.bits(0), MINUS_ZERO + 1);
        Check.due("part 1: the place of -1", x.set(1, -1, 128), -ONE);
        Check.due("part 1: its bits too", x.bits(1), bitsOf(-1));
        x.end(2, false);
        Check.due("part 1: the bits of the endless one below 0", x.bits(2), bitsOf(BELOW));
    }

    /** "The number of a place is the one that has it, for 0 it is 0, not -0." */
    private static void theNumberOfThePlaceZero() {
        Doubleline x = Check.with(-0.0, -LEAST, LEAST);
        x.middle(0, 0, 3);
        Check.due("part 1: the number of the place 0, from -0 and -0", x.bits(3), 0);
        x.middle(1, 2, 4);
        Check.due("part 1: the number of the place 0, from -1 and 1", x.bits(4), 0);
        x.middle(1, 1, 5);
        Check.due("part 1: the number of the place -1", x.bits(5), MINUS_ZERO + 1);
    }

    /** "Numbers are the same if both are 0, or both -0, or they have the same place, other than 0." */
    private static void zeroAndMinusZeroAreNotTheSame() {
        Doubleline x = Check.with(0.0, -0.0, LEAST, -LEAST);
        Check.due("part 1: 0 is not the same as -0", x.toward(0, 1, 1), 1);
        Check.due("part 1: -0 is the same as -0", x.toward(0, 1, 1), 0);
        x = Check.with(0.0, -0.0, LEAST, -LEAST);
        Check.due("part 1: -0 is not the same as 0", x.toward(1, 0, 1), 1);
        Check.due("part 1: 0 is the same as 0", x.toward(1, 0, 1), 0);
        x = Check.with(0.0, -0.0, LEAST, -LEAST);
        x.say('u', 1);
        Check.due("part 1: 0, 1, 0 is home", x.isHome(0), true);
        Check.due("part 1: -0, 1, 0 is not", x.isHome(1), false);
        Check.due("part 1: 1, 2, 1 is home", x.isHome(2), true);
        Check.due("part 1: -1, -0, -1 is home", x.isHome(3), true);
        x = Check.with(0.0, -0.0, LEAST, -LEAST);
        x.say('d', 1);
        Check.due("part 1: 0, -1, -0 is not home", x.isHome(0), false);
        Check.due("part 1: -0, -1, -0 is home", x.isHome(1), true);
        Check.due("part 1: 1, 0, 1 is home", x.isHome(2), true);
    }

    /** "The opposite of a number is it with the other sign, of 0 it is -0, and of -0 it is 0." */
    private static void opposites() {
        double[] numbers = {0.0, -0.0, LEAST, -LEAST, MOST, -MOST, ABOVE, BELOW};
        Doubleline x = Check.with(numbers);
        for (int i = 0; i < 8; i++) {
            Check.due("part 1: the opposite of " + numbers[i], x.negate(i, i), -Model.place(numbers[i]));
            Check.due("part 1: its bits", x.bits(i), bitsOf(-numbers[i]));
        }
    }

    /** "The slots 0 to 7 hold a number each, at first 0." */
    private static void slotsAtFirst() {
        Doubleline x = new Doubleline();
        for (int i = 0; i < 8; i++) {
            Check.due("part 1: slot " + i + " at first", x.bits(i), 0);
        }
        for (int i = 0; i < 8; i++) {
            x.set(i, i + 1, 0);
        }
        for (int i = 0; i < 8; i++) {
            Check.due("part 1: slot " + i + " for itself", x.place(i), i + 1);
        }
    }

    private static void handedNumbers() {
        factorBounds();
        powerBounds();
        theFactorZero();
    }

    /** "a factor, -128 to 127, and a power, 0 to 255: the factor times 2 to the power e" */
    private static void factorBounds() {
        handed(127, 0, 127 * LEAST);
        handed(-128, 0, -128 * LEAST);
        handed(127, 128, 127);
        handed(-128, 128, -128);
        handed(126, 128, 126);
        handed(-127, 128, -127);
        handed(1, 128, 1);
        handed(-1, 128, -1);
        handed(127, 255, 0x1.fcp1022);
        handed(-128, 255, -0x1p1023);
    }

    /** "the power less 1074 if it is below 64, the power less 128 if it is 64 to 191, the power more 761 above" */
    private static void powerBounds() {
        handed(1, 0, 0x1p-1074);
        handed(1, 1, 0x1p-1073);
        handed(3, 63, 0x3p-1011);
        handed(3, 64, 0x3p-64);
        handed(-3, 127, -0x3p-1);
        handed(-3, 191, -0x3p63);
        handed(3, 192, 0x3p953);
        handed(3, 254, 0x3p1015);
        handed(3, 255, 0x3p1016);
        handed(127, 45, 0x7fp-1029); // just below, at and just above 2 to the power -1022
        handed(127, 46, 0x7fp-1028);
        handed(-128, 45, -0x1p-1022);
    }

    /** "The factor 0 gives 0.": not -0, whatever the slot held, and whatever the power. */
    private static void theFactorZero() {
        for (int power : new int[] {0, 63, 64, 191, 192, 255}) {
            handed(0, power, 0.0);
        }
    }

    private static void handed(int factor, int power, double want) {
        for (double ahead : new double[] {0.0, -0.0, BELOW}) {
            Doubleline x = Check.with(ahead);
            String call = "part 1: set(0, " + factor + ", " + power + ") on " + ahead;
            Check.due(call, x.set(0, factor, power), Model.place(want));
            Check.due(call + ", its bits", x.bits(0), bitsOf(want));
        }
    }

    // part 2

    private static void steps() {
        stepsUp();
        stepsDown();
    }

    /** "A step up": "from 0 and -0 the place 1, from the place -1 the number -0, the endless one stays" */
    private static void stepsUp() {
        steppedUp(0.0, LEAST, 1);
        steppedUp(-0.0, LEAST, 1);
        steppedUp(-LEAST, -0.0, 1);
        steppedUp(-2 * LEAST, -LEAST, 1);
        steppedUp(LEAST, 2 * LEAST, 1);
        steppedUp(ABOVE, ABOVE, 0);
        steppedUp(MOST, ABOVE, 1);
        steppedUp(Math.nextDown(MOST), MOST, 1);
        steppedUp(BELOW, -MOST, 1);
        steppedUp(Math.nextDown(NORMAL), NORMAL, 1);
        steppedUp(-NORMAL, -Math.nextDown(NORMAL), 1);
        steppedUp(Math.nextDown(2.0), 2, 1);
        steppedUp(-2, -Math.nextDown(2.0), 1);
    }

    private static void steppedUp(double from, double want, int changes) {
        Doubleline x = Check.with(from);
        Check.due("part 2: a step up from " + from, x.up(0, 1), changes);
        Check.due("part 2: what a step up from " + from + " gives", x.bits(0), bitsOf(want));
    }

    /** "A step down": "from 0 and -0 the place -1, from the place 1 the number 0, the endless one stays" */
    private static void stepsDown() {
        steppedDown(0.0, -LEAST, 1);
        steppedDown(-0.0, -LEAST, 1);
        steppedDown(LEAST, 0.0, 1);
        steppedDown(2 * LEAST, LEAST, 1);
        steppedDown(-LEAST, -2 * LEAST, 1);
        steppedDown(BELOW, BELOW, 0);
        steppedDown(-MOST, BELOW, 1);
        steppedDown(-Math.nextDown(MOST), -MOST, 1);
        steppedDown(ABOVE, MOST, 1);
        steppedDown(NORMAL, Math.nextDown(NORMAL), 1);
        steppedDown(-Math.nextDown(NORMAL), -NORMAL, 1);
        steppedDown(2, Math.nextDown(2.0), 1);
        steppedDown(-Math.nextDown(2.0), -2, 1);
    }

    private static void steppedDown(double from, double want, int changes) {
        Doubleline x = Check.with(from);
        Check.due("part 2: a step down from " + from, x.down(0, 1), changes);
        Check.due("part 2: what a step down from " + from + " gives", x.bits(0), bitsOf(want));
    }

    /** "a step up if that has a greater place, down if it has a lesser one", and at the same place that number. */
    private static void stepsTowards() {
        towards(0.0, -0.0, -0.0, 1);
        towards(-0.0, 0.0, 0.0, 1);
        towards(0.0, 0.0, 0.0, 0);
        towards(-0.0, -0.0, -0.0, 0);
        towards(LEAST, -0.0, 0.0, 1); // a step down, so that it is 0 at first
        towards(LEAST, 0.0, 0.0, 1);
        towards(-LEAST, 0.0, -0.0, 1); // a step up, so that it is -0 at first
        towards(-LEAST, -0.0, -0.0, 1);
        towards(-0.0, LEAST, LEAST, 1);
        towards(0.0, -LEAST, -LEAST, 1);
        towards(LEAST, LEAST, LEAST, 0);
        towards(1, Math.nextUp(1.0), Math.nextUp(1.0), 1);
        towards(MOST, ABOVE, ABOVE, 1);
        towards(-MOST, BELOW, BELOW, 1);
        towards(ABOVE, ABOVE, ABOVE, 0);
        towards(BELOW, BELOW, BELOW, 0);
        towards(ABOVE, BELOW, MOST, 1);
        towards(BELOW, ABOVE, -MOST, 1);
    }

    private static void towards(double from, double goal, double want, int changes) {
        Doubleline x = Check.with(from, goal);
        String call = "part 2: a step from " + from + " towards " + goal;
        Check.due(call, x.toward(0, 1, 1), changes);
        Check.due(call + ", what it gives", x.bits(0), bitsOf(want));
        Check.due(call + ", the goal stays", x.bits(1), bitsOf(goal));
    }

    // part 3

    private static void scaling() {
        twoAsNear();
        justBesideTwoAsNear();
        belowZeroCanBecomeMinusZero();
        theEndlessOneFromThePower1024();
        whatStays();
        fromSmallToNotSmall();
    }

    private static void scaled(double from, int k, double want) {
        Doubleline x = Check.with(from);
        String call = "part 3: " + from + " times 2 to the power " + k;
        Check.due(call, x.scale(0, k, 1), Model.place(want));
        Check.due(call + ", its bits", x.bits(1), bitsOf(want));
        x.negate(0, 0);
        Check.due(call + ", below 0", x.scale(0, k, 1), -Model.place(want));
        Check.due(call + ", its bits below 0", x.bits(1), bitsOf(-want));
    }

    /** "that with an even place if two are as near" */
    private static void twoAsNear() {
        scaled(LEAST, -1, 0.0);
        scaled(3 * LEAST, -1, 2 * LEAST);
        scaled(5 * LEAST, -1, 2 * LEAST);
        scaled(7 * LEAST, -1, 4 * LEAST);
        scaled(2 * LEAST, -2, 0.0);
        scaled(6 * LEAST, -2, 2 * LEAST);
        scaled(10 * LEAST, -2, 2 * LEAST);
        scaled(1, -1075, 0.0);
        scaled(3, -1075, 2 * LEAST);
        scaled(Math.nextUp(NORMAL), -1, NORMAL / 2);
        scaled(Math.nextDown(2 * NORMAL), -1, NORMAL); // the even one above is not small any more
        scaled(Math.nextDown(NORMAL), -1, NORMAL / 2);
    }

    /** "the number nearest to what is exact": just less, and just more, than half between two. */
    private static void justBesideTwoAsNear() {
        scaled(Math.nextDown(1.0), -1075, 0.0);
        scaled(Math.nextUp(1.0), -1075, LEAST);
        scaled(Math.nextDown(3.0), -1075, LEAST);
        scaled(Math.nextUp(3.0), -1075, 2 * LEAST);
        scaled(Math.nextUp(5.0), -1075, 3 * LEAST);
        scaled(7 * LEAST, -3, LEAST);
        scaled(4 * LEAST, -3, 0.0);
        scaled(5 * LEAST, -3, LEAST);
        scaled(3 * LEAST, -3, 0.0);
        scaled(Math.nextDown(2.0), -1076, 0.0);
        scaled(Math.nextDown(2.0), -1075, LEAST);
        scaled(Math.nextDown(1.0), -1074, LEAST);
        scaled(Math.nextDown(0x1p1023), -2098, 0.0);
        scaled(Math.nextUp(0x1p1023), -2098, LEAST);
        scaled(0x1p1023, -2098, 0.0);
        scaled(0x1p1023, -2097, LEAST);
        scaled(MOST, -2099, 0.0);
        scaled(MOST, -2098, LEAST);
    }

    /** "with the same sign, so that what is below 0 can become -0" */
    private static void belowZeroCanBecomeMinusZero() {
        for (int k : new int[] {-1, -2, -52, -53, -54, -55, -56, -62, -63, -64, -65, -128, -4200}) {
            Doubleline x = Check.with(-LEAST, LEAST);
            Check.due("part 3: the place of -0, " + k, x.scale(0, k, 0), 0);
            Check.due("part 3: what is below 0 becomes -0, " + k, x.bits(0), MINUS_ZERO);
            Check.due("part 3: the place of 0, " + k, x.scale(1, k, 1), 0);
            Check.due("part 3: what is above 0 becomes 0, " + k, x.bits(1), 0);
        }
        scaled(-MOST, -4200, -0.0);
        scaled(-2 * LEAST, -1, -LEAST);
    }

    /** "where the size of what is exact is 2 to the power 1024 or more, it is the endless one of that sign" */
    private static void theEndlessOneFromThePower1024() {
        scaled(1, 1024, ABOVE);
        scaled(1, 1023, 0x1p1023);
        scaled(Math.nextDown(1.0), 1024, MOST);
        scaled(Math.nextUp(1.0), 1024, ABOVE);
        scaled(Math.nextDown(2.0), 1023, MOST);
        scaled(2, 1023, ABOVE);
        scaled(MOST, 0, MOST);
        scaled(MOST, 1, ABOVE);
        scaled(MOST, 4200, ABOVE);
        scaled(LEAST, 2097, 0x1p1023);
        scaled(LEAST, 2098, ABOVE);
        scaled(LEAST, 4200, ABOVE);
        scaled(Math.nextDown(NORMAL), 2046, MOST - 0x1p971);
        scaled(NORMAL, 2045, 0x1p1023);
        scaled(NORMAL, 2046, ABOVE);
    }

    /** "What is 0, -0 or endless stays." */
    private static void whatStays() {
        for (int k : new int[] {-4200, -1075, -1, 0, 1, 1024, 4200}) {
            scaled(0.0, k, 0.0);
            scaled(-0.0, k, -0.0);
            scaled(ABOVE, k, ABOVE);
            scaled(BELOW, k, BELOW);
        }
    }

    private static void fromSmallToNotSmall() {
        scaled(NORMAL / 2, 1, NORMAL);
        scaled(NORMAL, -1, NORMAL / 2);
        scaled(Math.nextDown(NORMAL), 1, 2 * Math.nextDown(NORMAL));
        scaled(Math.nextDown(NORMAL), 0, Math.nextDown(NORMAL));
        scaled(LEAST, 51, NORMAL / 2);
        scaled(LEAST, 52, NORMAL);
        scaled(LEAST, 53, 2 * NORMAL);
        scaled(3 * LEAST, 51, 1.5 * NORMAL);
    }

    private static void exponentsAndUnits() {
        exponents();
        units();
        unitsOfEndlessOnes();
    }

    /** "but -1023 for what is smaller than 2 to the power -1022, also for 0 and -0, and 1024 for an endless one" */
    private static void exponents() {
        exponent(0.0, -1023);
        exponent(LEAST, -1023);
        exponent(Math.nextDown(NORMAL), -1023);
        exponent(NORMAL, -1022);
        exponent(Math.nextDown(2 * NORMAL), -1022);
        exponent(2 * NORMAL, -1021);
        exponent(Math.nextDown(1.0), -1);
        exponent(1, 0);
        exponent(Math.nextDown(2.0), 0);
        exponent(2, 1);
        exponent(Math.nextDown(0x1p1023), 1022);
        exponent(0x1p1023, 1023);
        exponent(MOST, 1023);
        exponent(ABOVE, 1024);
    }

    private static void exponent(double number, int want) {
        Check.due("part 3: the exponent of " + number, Check.with(number).exponent(0), want);
        Check.due("part 3: the exponent of -" + number, Check.with(-number).exponent(0), want);
    }

    /** "2 to the power e - 52, with e its exponent, or -1022 if that is less" */
    private static void units() {
        unit(0.0, LEAST);
        unit(LEAST, LEAST);
        unit(Math.nextDown(NORMAL), LEAST);
        unit(NORMAL, LEAST);
        unit(Math.nextDown(2 * NORMAL), LEAST);
        unit(2 * NORMAL, 2 * LEAST);
        unit(4 * NORMAL, 4 * LEAST);
        unit(0x1p-971, NORMAL / 2); // the units themselves become small here
        unit(0x1p-970, NORMAL);
        unit(Math.nextDown(1.0), 0x1p-53);
        unit(1, 0x1p-52);
        unit(Math.nextDown(2.0), 0x1p-52);
        unit(0x1p52, 1);
        unit(Math.nextDown(0x1p1023), 0x1p970);
        unit(MOST, 0x1p971);
    }

    /** "of an endless one it is the endless one above 0" */
    private static void unitsOfEndlessOnes() {
        unit(ABOVE, ABOVE);
    }

    private static void unit(double number, double want) {
        Doubleline x = Check.with(number, -number);
        for (int i = 0; i < 2; i++) {
            Check.due("part 3: the unit of " + number + ", " + i, x.unit(i, i), Model.place(want));
            Check.due("part 3: its bits", x.bits(i), bitsOf(want));
        }
    }

    /** "A grain is 2 to the power -1074: each number that is not endless is a whole number of grains." */
    private static void grains() {
        grains(0.0, 0);
        grains(LEAST, 1);
        grains(1000001 * LEAST, 1);
        grains(999999 * LEAST, 999999);
        grains(1000000 * LEAST, 0);
        grains(Math.nextDown(NORMAL), 370495); // 2 to the power 52, less 1
        grains(NORMAL, 370496);
        grains(2 * NORMAL, 740992);
        grains(Math.nextUp(2 * NORMAL), 740994);
        grains(MOST, Model.grainsOf(MOST).mod(java.math.BigInteger.valueOf(1000000)).intValue());
    }

    private static void grains(double number, int want) {
        Check.due("part 3: grains of " + number, Check.with(number).grains(0, 1000000), want);
        Check.due("part 3: grains of -" + number, Check.with(-number).grains(0, 1000000), want);
    }

    // part 4

    private static void words() {
        noWords();
        fortyWords();
        turnedRound();
        wordsThatLoseSomething();
        wordsThatLoseNothing();
    }

    /** "a row of at most 40 words, empty at first": with none, a number is led nowhere. */
    private static void noWords() {
        for (double number : new double[] {0.0, -0.0, LEAST, -1, MOST, ABOVE, BELOW}) {
            Doubleline x = Check.with(number, 7);
            Check.due("part 4: no words played on " + number, x.play(0, 1), Model.place(number));
            Check.due("part 4: what it gives", x.bits(1), bitsOf(number));
            Check.due("part 4: no words played back on " + number, x.playBack(0, 2), Model.place(number));
            Check.due("part 4: what it gives too", x.bits(2), bitsOf(number));
            Check.due("part 4: no words lead home " + number, x.isHome(0), true);
            Check.due("part 4: no words lose nothing at " + number, x.losses(0), 0);
        }
        Check.due("part 4: empty at first", new Doubleline().hush(), 0);
    }

    /** "a row of at most 40 words": the 40th is played like the first. */
    private static void fortyWords() {
        Doubleline x = Check.with(1);
        for (int i = 0; i < 39; i++) {
            x.say('u', 15);
        }
        Check.due("part 4: 39 words", x.play(0, 1), ONE + 39 * 15);
        Check.due("part 4: the 40th word", x.say('u', 7), 40);
        Check.due("part 4: 40 words played", x.play(0, 1), ONE + 39 * 15 + 7);
        Check.due("part 4: 40 words played back", x.playBack(1, 2), ONE);
        Check.due("part 4: 40 words lead home", x.isHome(0), true);
        x.end(3, true);
        Check.due("part 4: each of 40 loses something", x.losses(3), 40);
        Check.due("part 4: hush of 40", x.hush(), 40);
        Check.due("part 4: the first one again", x.say('d', 1), 1);
    }

    /** "down for up, up for down, times 2 to the power of the opposite, and the opposite as it is" */
    private static void turnedRound() {
        playedBack('u', 15, 1, ONE - 15);
        playedBack('d', 15, 1, ONE + 15);
        playedBack('x', 40, 1, bitsOf(0x1p-40));
        playedBack('x', -40, 1, bitsOf(0x1p40));
        playedBack('n', 0, 1, bitsOf(-1));
        playedBack('n', 0, -0.0, 0);
        playedBack('n', 0, 0.0, MINUS_ZERO);
        playedBack('u', 0, -0.0, MINUS_ZERO);
        playedBack('d', 0, -0.0, MINUS_ZERO);
        playedBack('x', 0, -0.0, MINUS_ZERO);
        playedBack('u', 1, LEAST, 0);
        playedBack('d', 1, -LEAST, MINUS_ZERO);
        playedBack('u', 1, BELOW, bitsOf(BELOW));
        playedBack('d', 1, ABOVE, ENDLESS);
        playedBack('x', 1, LEAST, 0);
        playedBack('x', 1, -LEAST, MINUS_ZERO);
        playedBack('x', -1, MOST, ENDLESS);
    }

    private static void playedBack(char kind, int n, double number, long want) {
        Doubleline x = Check.with(number);
        x.say(kind, n);
        x.playBack(0, 0);
        Check.due("part 4: " + kind + n + " played back on " + number, x.bits(0), want);
    }

    /** "A word loses something at a number if it, and then it turned round, do not give the same number." */
    private static void wordsThatLoseSomething() {
        losses('u', 1, -0.0, 1);
        losses('u', 15, -0.0, 1);
        losses('d', 1, 0.0, 1);
        losses('u', 1, ABOVE, 1);
        losses('d', 1, BELOW, 1);
        losses('u', 2, MOST, 1);
        losses('d', 2, -MOST, 1);
        losses('x', 1, MOST, 1);
        losses('x', 40, 0x1p984, 1);
        losses('x', -1, LEAST, 1);
        losses('x', -1, -3 * LEAST, 1);
        losses('x', -1, Math.nextUp(NORMAL), 1);
        losses('x', -40, Math.nextUp(0x1p-983), 1);
    }

    private static void wordsThatLoseNothing() {
        losses('u', 0, -0.0, 0);
        losses('d', 0, 0.0, 0);
        losses('u', 1, 0.0, 0);
        losses('d', 1, -0.0, 0);
        losses('u', 1, -LEAST, 0);
        losses('d', 1, LEAST, 0);
        losses('u', 0, ABOVE, 0);
        losses('u', 1, MOST, 0);
        losses('d', 1, ABOVE, 0);
        losses('u', 1, BELOW, 0);
        losses('x', 40, ABOVE, 0);
        losses('x', -40, -0.0, 0);
        losses('x', 1, Math.nextDown(0x1p1023), 0);
        losses('x', 40, 0x1p983, 0);
        losses('x', -1, 2 * LEAST, 0);
        losses('x', -1, NORMAL, 0);
        losses('x', -40, Math.nextUp(0x1p-982), 0);
        losses('n', 0, 0.0, 0);
        losses('n', 0, -0.0, 0);
        losses('n', 0, BELOW, 0);
    }

    private static void losses(char kind, int n, double number, int want) {
        Doubleline x = Check.with(number);
        x.say(kind, n);
        Check.due("part 4: what " + kind + n + " loses at " + number, x.losses(0), want);
        Check.due("part 4: " + kind + n + " leads home " + number, x.isHome(0), want == 0);
        Check.due("part 4: the number stays", x.bits(0), bitsOf(number));
    }

    // part 5

    private static void undoing() {
        noneKept();
        eightKept();
        theOldestIsForgotten();
        keptAlsoIfTheSame();
        theRowIsNotKept();
        aRefusedCallKeepsNothing();
        whatIsTakenBackIsNotKept();
    }

    private static Doubleline rising(int calls) {
        Doubleline x = new Doubleline();
        for (int i = 1; i <= calls; i++) {
            x.set(i % 5, i, 0);
        }
        return x;
    }

    private static void noneKept() {
        Doubleline x = new Doubleline();
        Check.due("part 5: none kept at first", Check.undone(x), -1);
        Check.due("part 5: none kept still", Check.undone(x), -1);
        x.set(3, 1, 0);
        Check.due("part 5: one kept", x.undo(), 3);
        Check.due("part 5: what it brings back", x.place(3), 0);
        Check.due("part 5: none kept again", Check.undone(x), -1);
    }

    /** "at most eight of these": 7, 8, 9 and 17 calls. */
    private static void eightKept() {
        for (int calls : new int[] {7, 8, 9, 16, 17}) {
            Doubleline x = rising(calls);
            for (int i = calls; i > calls - 8 && i > 0; i--) {
                Check.due("part 5: undo of call " + i + " of " + calls, x.undo(), i % 5);
                Check.due("part 5: what it brings back", x.place(i % 5), Math.max(i - 5, 0));
            }
            Check.due("part 5: no more of " + calls, Check.undone(x), -1);
        }
    }

    /** "the oldest one being forgotten": what the first of nine calls did cannot be taken back. */
    private static void theOldestIsForgotten() {
        Doubleline x = new Doubleline();
        x.set(7, 3, 0);
        for (int i = 0; i < 7; i++) {
            x.set(i, 1, 0);
        }
        for (int i = 6; i >= 0; i--) {
            Check.due("part 5: undo of seven more", x.undo(), i);
        }
        Check.due("part 5: the oldest of eight is still kept", x.undo(), 7);
        Check.due("part 5: it brings 0 back", x.place(7), 0);
        x.set(7, 3, 0);
        for (int i = 0; i < 8; i++) {
            x.set(i % 7, 1, 0);
        }
        for (int i = 7; i >= 0; i--) {
            Check.due("part 5: undo of eight more", x.undo(), i % 7);
        }
        Check.due("part 5: the oldest of nine is forgotten", Check.undone(x), -1);
        Check.due("part 5: so its slot stays", x.place(7), 3);
    }

    /** "also if it is the same then": each such call counts among the eight. */
    private static void keptAlsoIfTheSame() {
        same("set to the same", 4, x -> x.set(4, 0, 9));
        same("end to the same", 2, x -> x.end(2, true));
        same("end below to the same", 3, x -> x.end(3, false));
        same("copy to itself", 0, x -> x.copy(0, 0));
        same("copy of the same", 5, x -> x.copy(4, 5));
        same("up by 0", 0, x -> x.up(0, 0));
        same("up at the endless one", 2, x -> x.up(2, 64));
        same("down by 0", 0, x -> x.down(0, 0));
        same("down at the endless one", 3, x -> x.down(3, 64));
        same("toward by 0", 0, x -> x.toward(0, 1, 0));
        same("toward itself", 0, x -> x.toward(0, 0, 64));
        same("middle of itself", 0, x -> x.middle(0, 0, 0));
        same("scale by 0", 0, x -> x.scale(0, 0, 0));
        same("scale of what stays", 2, x -> x.scale(2, -4200, 2));
        same("unit of an endless one", 2, x -> x.unit(2, 2));
        same("power of a power", 6, x -> x.power(6, 6));
        same("play of no words", 0, x -> x.play(0, 0));
        same("playBack of no words", 0, x -> x.playBack(0, 0));
    }

    private static void same(String name, int slot, Consumer<Doubleline> call) {
        Doubleline x = States.SOME.get();
        x.hush();
        x.set(4, 0, 0);
        x.set(6, 1, 7);
        long ahead = x.checksum();
        for (int i = 0; i < 8; i++) {
            call.accept(x);
            Check.due("part 5: nothing becomes another number by " + name, x.checksum(), ahead);
        }
        for (int i = 0; i < 8; i++) {
            Check.due("part 5: undo " + i + " of " + name, x.undo(), slot);
            Check.due("part 5: it is the same then", x.checksum(), ahead);
        }
        Check.due("part 5: eight times " + name + " push all others out", Check.undone(x), -1);
    }

    /** "the row is not kept": neither is a word taken back, nor does one push a number out. */
    private static void theRowIsNotKept() {
        Doubleline x = rising(8);
        for (int i = 0; i < 40; i++) {
            x.say('u', 1);
        }
        Check.due("part 5: undo after 40 words", x.undo(), 3);
        Check.due("part 5: they are all there", x.hush(), 40);
        Check.due("part 5: undo after hush", x.undo(), 2);
        Check.due("part 5: no word is brought back", x.hush(), 0);
        for (int i = 6; i > 0; i--) {
            Check.due("part 5: undo of call " + i, x.undo(), i % 5);
        }
        Check.due("part 5: none is left", Check.undone(x), -1);
        x.say('u', 1);
        Check.due("part 5: a word is not kept", Check.undone(x), -1);
        x.hush();
        Check.due("part 5: hush is not kept", Check.undone(x), -1);
    }

    /** "A method that throws an exception changes nothing.": nor does it push out the oldest of eight. */
    private static void aRefusedCallKeepsNothing() {
        Doubleline x = rising(8);
        for (int i = 0; i < 9; i++) {
            refuse(x, y -> y.set(0, 128, 0));
            refuse(x, y -> y.up(0, 65));
            refuse(x, y -> y.copy(0, 8));
            refuse(x, y -> y.power(6, 0));
            refuse(x, y -> y.say('u', 16));
        }
        for (int i = 8; i > 0; i--) {
            Check.due("part 5: undo of call " + i + " after refusals", x.undo(), i % 5);
            Check.due("part 5: what it brings back", x.place(i % 5), Math.max(i - 5, 0));
        }
        Check.due("part 5: none is left after refusals", Check.undone(x), -1);
        refuse(x, y -> y.down(0, -1));
        Check.due("part 5: a refused call is not kept", Check.undone(x), -1);
    }

    private static void refuse(Doubleline x, Consumer<Doubleline> call) {
        try {
            call.accept(x);
            Check.report("part 5: a call that is to be refused was answered");
        } catch (IndexOutOfBoundsException | IllegalArgumentException | ArithmeticException e) {
            return;
        }
    }

    /** What undo has brought back is not kept again: new calls follow on what is left. */
    private static void whatIsTakenBackIsNotKept() {
        Doubleline x = rising(8);
        for (int i = 8; i > 5; i--) {
            x.undo();
        }
        for (int i = 1; i <= 4; i++) {
            x.set(7, i, 1);
        }
        for (int i = 4; i > 0; i--) {
            Check.due("part 5: undo of a new call", x.undo(), 7);
            Check.due("part 5: what it brings back", x.place(7), 2 * (i - 1));
        }
        for (int i = 5; i > 1; i--) {
            Check.due("part 5: undo of the old call " + i, x.undo(), i % 5);
            Check.due("part 5: what it brings back", x.place(i % 5), 0);
        }
        Check.due("part 5: the oldest of nine was forgotten", Check.undone(x), -1);
        Check.due("part 5: it stays", x.place(1), 1);
    }
}
