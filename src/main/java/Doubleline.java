import java.util.NoSuchElementException;

/**
 * Eight slots with a number each. A number is held as its bits, not as a double: two numbers are the
 * same, as the document means it, just if their bits are, also where they are 0 and -0.
 */
public final class Doubleline {
    private static final int SLOTS = 8;
    private static final int MOST_STEPS = 64;
    private static final int MOST_SCALING = 4200;
    private static final int MOST_SCALING_OF_TWO = 2100;
    private static final int MOST_MODULUS = 1000000;

    private final long[] slots;
    private final Row row;
    private final Past past;

    public Doubleline() {
        slots = new long[SLOTS];
        row = new Row();
        past = new Past();
    }

    // numbers

    public long set(int slot, int factor, int power) throws IndexOutOfBoundsException, IllegalArgumentException {
        checkSlot(slot);
        checkRange(factor, -128, 127);
        checkRange(power, 0, 255);
        return become(slot, Line.handed(factor, power));
    }

    public long end(int slot, boolean isAbove) throws IndexOutOfBoundsException {
        checkSlot(slot);
        return become(slot, isAbove ? Line.ENDLESS : Line.opposite(Line.ENDLESS));
    }

    public long copy(int slot, int to) throws IndexOutOfBoundsException {
        checkSlot(slot);
        checkSlot(to);
        return become(to, slots[slot]);
    }

    public long negate(int slot, int to) throws IndexOutOfBoundsException {
        checkSlot(slot);
        checkSlot(to);
        return become(to, Line.opposite(slots[slot]));
    }

    public long place(int slot) throws IndexOutOfBoundsException {
        checkSlot(slot);
        return Line.placeOf(slots[slot]);
    }

    public long bits(int slot) throws IndexOutOfBoundsException {
        checkSlot(slot);
        return slots[slot];
    }

    public boolean isEndless(int slot) throws IndexOutOfBoundsException {
        checkSlot(slot);
        return Line.hasNoEnd(slots[slot]);
    }

    public boolean isWhole(int slot) throws IndexOutOfBoundsException {
        checkSlot(slot);
        return Line.hasNoFraction(slots[slot]);
    }

    public boolean isSmall(int slot) throws IndexOutOfBoundsException {
        checkSlot(slot);
        return Line.hasLeastExponent(slots[slot]);
    }

    // steps

    public int up(int slot, int steps) throws IndexOutOfBoundsException, IllegalArgumentException {
        checkSlot(slot);
        checkRange(steps, 0, MOST_STEPS);
        long ahead = slots[slot];
        // Each step that gives another number goes just one place on, so the places count the steps.
        return (int) (become(slot, Line.raised(ahead, steps)) - Line.placeOf(ahead));
    }

    public int down(int slot, int steps) throws IndexOutOfBoundsException, IllegalArgumentException {
        checkSlot(slot);
        checkRange(steps, 0, MOST_STEPS);
        long ahead = slots[slot];
        return (int) (Line.placeOf(ahead) - become(slot, Line.lowered(ahead, steps)));
    }

    public int toward(int slot, int other, int steps) throws IndexOutOfBoundsException, IllegalArgumentException {
        checkSlot(slot);
        checkSlot(other);
        checkRange(steps, 0, MOST_STEPS);
        long goal = slots[other];
        long now = slots[slot];
        int changes = 0;
        for (int i = 0; i < steps; i++) {
            long next = Line.nearer(now, goal);
            if (next != now) {
                changes++;
            }
            now = next;
        }
        become(slot, now);
        return changes;
    }

    public int walk(int one, int other) throws IndexOutOfBoundsException {
        checkSlot(one);
        checkSlot(other);
        long distance = Line.distance(slots[one], slots[other]);
        return Line.isMoreThan(distance, MOST_STEPS) ? -1 : (int) distance;
    }

    public long apart(int one, int other) throws IndexOutOfBoundsException {
        checkSlot(one);
        checkSlot(other);
        return Line.distance(slots[one], slots[other]);
    }

    public boolean areNext(int one, int other) throws IndexOutOfBoundsException {
        checkSlot(one);
        checkSlot(other);
        return Line.distance(slots[one], slots[other]) == 1;
    }

    public long middle(int one, int other, int to) throws IndexOutOfBoundsException {
        checkSlot(one);
        checkSlot(other);
        checkSlot(to);
        return become(to, Line.between(slots[one], slots[other]));
    }

    public int halvings(int one, int other) throws IndexOutOfBoundsException {
        checkSlot(one);
        checkSlot(other);
        long now = slots[one];
        long goal = slots[other];
        int count = 0;
        // Two places are less than 2 to the power 64 apart, so 64 halvings are always enough.
        while (count < 64 && Line.isMoreThan(Line.distance(now, goal), 1)) {
            now = Line.between(now, goal);
            count++;
        }
        return count;
    }

    // order

    public int compare(int one, int other) throws IndexOutOfBoundsException {
        checkSlot(one);
        checkSlot(other);
        return Line.order(slots[one], slots[other]);
    }

    public int least() {
        int found = 0;
        for (int i = 1; i < SLOTS; i++) {
            if (Line.order(slots[i], slots[found]) < 0) {
                found = i;
            }
        }
        return found;
    }

    public int rank(int slot) throws IndexOutOfBoundsException {
        checkSlot(slot);
        int lesser = 0;
        for (int i = 0; i < SLOTS; i++) {
            if (Line.order(slots[i], slots[slot]) < 0) {
                lesser++;
            }
        }
        return lesser;
    }

    // scaling

    public long scale(int slot, int k, int to) throws IndexOutOfBoundsException, IllegalArgumentException {
        checkSlot(slot);
        checkSlot(to);
        checkRange(k, -MOST_SCALING, MOST_SCALING);
        return become(to, Line.scaled(slots[slot], k));
    }

    public boolean isKept(int slot, int k) throws IndexOutOfBoundsException, IllegalArgumentException {
        checkSlot(slot);
        checkRange(k, -MOST_SCALING, MOST_SCALING);
        long number = slots[slot];
        return Line.scaled(Line.scaled(number, k), -k) == number;
    }

    public boolean isOne(int slot, int j, int k) throws IndexOutOfBoundsException, IllegalArgumentException {
        checkSlot(slot);
        checkRange(j, -MOST_SCALING_OF_TWO, MOST_SCALING_OF_TWO);
        checkRange(k, -MOST_SCALING_OF_TWO, MOST_SCALING_OF_TWO);
        long number = slots[slot];
        return Line.scaled(Line.scaled(number, j), k) == Line.scaled(number, j + k);
    }

    public int exponent(int slot) throws IndexOutOfBoundsException {
        checkSlot(slot);
        return Line.exponentOf(slots[slot]);
    }

    public long unit(int slot, int to) throws IndexOutOfBoundsException {
        checkSlot(slot);
        checkSlot(to);
        return become(to, Line.unitOf(slots[slot]));
    }

    public int lead(int slot) throws IndexOutOfBoundsException, ArithmeticException {
        checkSlot(slot);
        checkHasPowers(slots[slot]);
        return Line.leadOf(slots[slot]);
    }

    public int tail(int slot) throws IndexOutOfBoundsException, ArithmeticException {
        checkSlot(slot);
        checkHasPowers(slots[slot]);
        return Line.tailOf(slots[slot]);
    }

    public long power(int slot, int to) throws IndexOutOfBoundsException, ArithmeticException {
        checkSlot(slot);
        checkSlot(to);
        checkHasPowers(slots[slot]);
        return become(to, Line.powerOfTwo(Line.leadOf(slots[slot])));
    }

    // measuring

    public int grains(int slot, int modulus)
            throws IndexOutOfBoundsException, IllegalArgumentException, IllegalStateException {
        checkSlot(slot);
        checkRange(modulus, 1, MOST_MODULUS);
        checkHasEnd(slots[slot]);
        return Measure.sizeRest(slots[slot], modulus);
    }

    public int gap(int one, int other, int modulus)
            throws IndexOutOfBoundsException, IllegalArgumentException, IllegalStateException {
        checkSlot(one);
        checkSlot(other);
        checkRange(modulus, 1, MOST_MODULUS);
        checkHasEnd(slots[one]);
        checkHasEnd(slots[other]);
        return Measure.gapRest(slots[one], slots[other], modulus);
    }

    public int compareGaps(int one, int other, int third, int fourth)
            throws IndexOutOfBoundsException, IllegalStateException {
        checkSlot(one);
        checkSlot(other);
        checkSlot(third);
        checkSlot(fourth);
        checkHasEnd(slots[one]);
        checkHasEnd(slots[other]);
        checkHasEnd(slots[third]);
        checkHasEnd(slots[fourth]);
        return Measure.orderOfGaps(slots[one], slots[other], slots[third], slots[fourth]);
    }

    // words

    public int say(char kind, int n) throws IllegalArgumentException, IllegalStateException {
        if (!Row.isWord(kind, n)) {
            throw new IllegalArgumentException("no such word");
        }
        if (row.isFull()) {
            throw new IllegalStateException("the row is full");
        }
        row.add(kind, n);
        return row.size();
    }

    public int hush() {
        int size = row.size();
        row.clear();
        return size;
    }

    public long play(int slot, int to) throws IndexOutOfBoundsException {
        checkSlot(slot);
        checkSlot(to);
        return become(to, row.playedOn(slots[slot]));
    }

    public long playBack(int slot, int to) throws IndexOutOfBoundsException {
        checkSlot(slot);
        checkSlot(to);
        return become(to, row.playedBackOn(slots[slot]));
    }

    public boolean isHome(int slot) throws IndexOutOfBoundsException {
        checkSlot(slot);
        return row.leadsHome(slots[slot]);
    }

    public int losses(int slot) throws IndexOutOfBoundsException {
        checkSlot(slot);
        return row.lossesFrom(slots[slot]);
    }

    // figures

    public int undo() throws NoSuchElementException {
        if (past.isEmpty()) {
            throw new NoSuchElementException("nothing is kept");
        }
        int slot = past.latestSlot();
        slots[slot] = past.latestNumber();
        past.forgetLatest();
        return slot;
    }

    public float share() {
        int small = 0;
        for (int i = 0; i < SLOTS; i++) {
            if (Line.hasLeastExponent(slots[i])) {
                small++;
            }
        }
        return (float) small / (float) SLOTS;
    }

    public double meanExponent() {
        int sum = 0;
        for (int i = 0; i < SLOTS; i++) {
            sum += Line.exponentOf(slots[i]);
        }
        return (double) sum / (double) SLOTS;
    }

    public long checksum() {
        long sum = 7;
        for (int i = 0; i < SLOTS; i++) {
            sum = 31 * sum + slots[i];
        }
        return row.addedTo(sum);
    }

    public boolean isSound() {
        for (int i = 0; i < SLOTS; i++) {
            // Only where no word loses something must the row, played back, lead home.
            if (!Theorem.holdsAt(slots[i]) || row.lossesFrom(slots[i]) == 0 && !row.leadsHome(slots[i])) {
                return false;
            }
            for (int j = 0; j < SLOTS; j++) {
                if (!Theorem.holdsBetween(slots[i], slots[j])) {
                    return false;
                }
            }
        }
        return true;
    }

    /** The one way to let a slot become something, so that none is left out of what undo knows. */
    private long become(int slot, long number) {
        past.keep(slot, slots[slot]);
        slots[slot] = number;
        return Line.placeOf(number);
    }

    private static void checkSlot(int slot) throws IndexOutOfBoundsException {
        if (slot < 0 || slot >= SLOTS) {
            throw new IndexOutOfBoundsException("no such slot");
        }
    }

    private static void checkRange(int number, int from, int to) throws IllegalArgumentException {
        if (number < from || number > to) {
            throw new IllegalArgumentException("out of range");
        }
    }

    private static void checkHasPowers(long number) throws ArithmeticException {
        if (Line.isZero(number) || Line.hasNoEnd(number)) {
            throw new ArithmeticException("no power of 2 leads it");
        }
    }

    private static void checkHasEnd(long number) throws IllegalStateException {
        if (Line.hasNoEnd(number)) {
            throw new IllegalStateException("endless");
        }
    }

    /**
     * What one number, or two, are and become. A number is its bits: the sign, eleven bits that tell
     * the exponent, and 52 below them. The bits without the sign are the place of the size. The size
     * of a number that is not endless is whole(number) times 2 to the power shift(number) grains.
     */
    private static final class Line {
        private static final long SIGN = -9223372036854775808L;
        private static final long ENDLESS = 9218868437227405312L;
        private static final int FRACTION_BITS = 52;
        private static final long LEAST_NORMAL = 1L << FRACTION_BITS;
        private static final int GRAIN = -1074;
        private static final int GREATEST_EXPONENT = 1023;

        static long placeOf(long number) {
            return number >= 0 ? number : SIGN - number;
        }

        static long atPlace(long place) {
            return place >= 0 ? place : SIGN - place;
        }

        static long opposite(long number) {
            return number ^ SIGN;
        }

        static long sizeOf(long number) {
            return number & ~SIGN;
        }

        static boolean isZero(long number) {
            return sizeOf(number) == 0;
        }

        static boolean hasNoEnd(long number) {
            return sizeOf(number) == ENDLESS;
        }

        static boolean hasNoFraction(long number) {
            return isZero(number) || !hasNoEnd(number) && tailOf(number) >= 0;
        }

        static boolean hasLeastExponent(long number) {
            return exponentBits(number) == 0;
        }

        static long handed(int factor, int power) {
            if (factor == 0) {
                return 0;
            }
            long size = nearest(Math.abs(factor), handedExponent(power) - GRAIN);
            return factor < 0 ? opposite(size) : size;
        }

        private static int handedExponent(int power) {
            if (power < 64) {
                return power - 1074;
            }
            return power <= 191 ? power - 128 : power + 761;
        }

        static long raised(long number, int steps) {
            long place = placeOf(number);
            if (place > ENDLESS - steps) {
                return ENDLESS;
            }
            if (steps > 0 && place + steps == 0) {
                return SIGN; // from below 0 the steps up come to -0, not to 0
            }
            return steps == 0 ? number : atPlace(place + steps);
        }

        static long lowered(long number, int steps) {
            return opposite(raised(opposite(number), steps));
        }

        static long nearer(long number, long goal) {
            int order = order(number, goal);
            if (order == 0) {
                return goal;
            }
            return order < 0 ? raised(number, 1) : lowered(number, 1);
        }

        static int order(long one, long other) {
            return Long.compare(placeOf(one), placeOf(other));
        }

        /** How far two places are apart: below 0 where that is more than a long holds. */
        static long distance(long one, long other) {
            long difference = placeOf(one) - placeOf(other);
            return order(one, other) < 0 ? -difference : difference;
        }

        static boolean isMoreThan(long distance, int bound) {
            return distance < 0 || distance > bound;
        }

        static long between(long one, long other) {
            long a = placeOf(one);
            long b = placeOf(other);
            // The sum of two places can be more than a long holds: the bits that both have count
            // whole, those that only one has count half.
            return atPlace((a & b) + ((a ^ b) >> 1));
        }

        static long scaled(long number, int k) {
            if (isZero(number) || hasNoEnd(number)) {
                return number;
            }
            return number & SIGN | nearest(whole(number), shift(number) + k);
        }

        static int exponentOf(long number) {
            return exponentBits(number) - GREATEST_EXPONENT;
        }

        static long unitOf(long number) {
            return hasNoEnd(number) ? ENDLESS : powerOfTwo(GRAIN + shift(number));
        }

        static int leadOf(long number) {
            return 63 - Long.numberOfLeadingZeros(whole(number)) + shift(number) + GRAIN;
        }

        static int tailOf(long number) {
            return Long.numberOfTrailingZeros(whole(number)) + shift(number) + GRAIN;
        }

        static long powerOfTwo(int exponent) {
            return nearest(1, exponent - GRAIN);
        }

        static long whole(long number) {
            long fraction = number & (LEAST_NORMAL - 1);
            return exponentBits(number) == 0 ? fraction : fraction | LEAST_NORMAL;
        }

        static int shift(long number) {
            return Math.max(exponentBits(number), 1) - 1;
        }

        private static int exponentBits(long number) {
            return (int) (number >> FRACTION_BITS) & 2047;
        }

        /** The size nearest to whole times 2 to the power shift grains; whole has 1 to 53 bits. */
        private static long nearest(long whole, int shift) {
            int highest = 63 - Long.numberOfLeadingZeros(whole);
            if (highest + shift > GREATEST_EXPONENT - GRAIN) {
                return ENDLESS;
            }
            if (shift < 0) {
                return halved(whole, -shift);
            }
            int free = FRACTION_BITS - highest;
            if (shift <= free) {
                return whole << shift; // so many grains are so many places
            }
            // The bit above the fraction adds the one by which the eleven bits are more than the shift.
            return ((long) (shift - free) << FRACTION_BITS) + (whole << free);
        }

        /** What is whole, halved some times, and rounded once: to the nearest, of two to the even one. */
        private static long halved(long whole, int times) {
            if (times > FRACTION_BITS + 2) {
                return 0; // less than half a grain
            }
            long below = whole >> times;
            long rest = whole - (below << times);
            long half = 1L << (times - 1);
            boolean goesUp = rest > half || rest == half && (below & 1) == 1;
            return goesUp ? below + 1 : below;
        }
    }

    /** Exact counts of grains: they have up to 2098 bits, so that no long holds them. */
    private static final class Measure {
        private static final int PART_BITS = 32;
        private static final long PART = 0xFFFFFFFFL;
        private static final int PARTS = 66; // four numbers have less than 2101 bits together

        static int sizeRest(long number, int modulus) {
            long rest = Line.whole(number) % modulus * powerRest(Line.shift(number), modulus);
            return (int) (rest % modulus);
        }

        static int gapRest(long one, long other, int modulus) {
            int difference = signedRest(one, modulus) - signedRest(other, modulus);
            return Math.floorMod(Line.order(one, other) < 0 ? -difference : difference, modulus);
        }

        private static int signedRest(long number, int modulus) {
            int rest = sizeRest(number, modulus);
            return number < 0 ? -rest : rest;
        }

        private static long powerRest(int power, int modulus) {
            long rest = 1 % modulus;
            long square = 2 % modulus;
            for (int left = power; left > 0; left >>= 1) {
                if ((left & 1) == 1) {
                    rest = rest * square % modulus;
                }
                square = square * square % modulus;
            }
            return rest;
        }

        static int orderOfGaps(long one, long other, long third, long fourth) {
            boolean isRising = Line.order(one, other) < 0;
            boolean isNextRising = Line.order(third, fourth) < 0;
            return signOfSum(
                    isRising ? other : one,
                    Line.opposite(isRising ? one : other),
                    Line.opposite(isNextRising ? fourth : third),
                    isNextRising ? third : fourth);
        }

        /** Whether the exact sum of four numbers is below 0, 0, or above 0: -1, 0 or 1. */
        static int signOfSum(long a, long b, long c, long d) {
            long carry = 0;
            boolean hasBits = false;
            for (int i = 0; i < PARTS; i++) {
                long sum = carry + signedPart(a, i) + signedPart(b, i) + signedPart(c, i) + signedPart(d, i);
                hasBits = hasBits || (sum & PART) != 0;
                carry = sum >> PART_BITS; // rounds down, so that every part but the carry is 0 or above
            }
            if (carry < 0) {
                return -1;
            }
            return hasBits ? 1 : 0;
        }

        /** The 32 bits from 32 times the index on of how many grains a number has, with its sign. */
        private static long signedPart(long number, int index) {
            int from = PART_BITS * index - Line.shift(number);
            long part = 0;
            if (from >= 0 && from < 64) {
                part = Line.whole(number) >> from & PART;
            } else if (from < 0 && from > -PART_BITS) {
                part = Line.whole(number) << -from & PART;
            }
            return number < 0 ? -part : part;
        }
    }

    private static final class Row {
        private static final int MOST_WORDS = 40;
        private static final int MOST_WORD_STEPS = 15;
        private static final int MOST_WORD_SCALING = 40;

        private final char[] kinds;
        private final int[] counts;
        private int size;

        Row() {
            kinds = new char[MOST_WORDS];
            counts = new int[MOST_WORDS];
            size = 0;
        }

        static boolean isWord(char kind, int n) {
            if (kind == 'u' || kind == 'd') {
                return n >= 0 && n <= MOST_WORD_STEPS;
            }
            if (kind == 'x') {
                return n >= -MOST_WORD_SCALING && n <= MOST_WORD_SCALING;
            }
            return kind == 'n' && n == 0;
        }

        int size() {
            return size;
        }

        boolean isFull() {
            return size >= MOST_WORDS;
        }

        void add(char kind, int n) {
            if (!isFull()) {
                kinds[size] = kind;
                counts[size] = n;
                size++;
            }
        }

        void clear() {
            size = 0;
        }

        long playedOn(long number) {
            long now = number;
            for (int i = 0; i < size; i++) {
                now = done(kinds[i], counts[i], now);
            }
            return now;
        }

        long playedBackOn(long number) {
            long now = number;
            for (int i = size - 1; i >= 0; i--) {
                now = done(kinds[i], -counts[i], now);
            }
            return now;
        }

        boolean leadsHome(long number) {
            return playedBackOn(playedOn(number)) == number;
        }

        int lossesFrom(long number) {
            int lost = 0;
            long now = number;
            for (int i = 0; i < size; i++) {
                long next = done(kinds[i], counts[i], now);
                if (done(kinds[i], -counts[i], next) != now) {
                    lost++;
                }
                now = next;
            }
            return lost;
        }

        long addedTo(long start) {
            long sum = 31 * start + size;
            for (int i = 0; i < size; i++) {
                sum = 31 * sum + (long) kinds[i];
                sum = 31 * sum + counts[i];
            }
            return sum;
        }

        /** Does a word to a number; turned round it is the word with its n negated. */
        private static long done(char kind, int n, long number) {
            if (kind == 'n') {
                return Line.opposite(number);
            }
            if (kind == 'x') {
                return Line.scaled(number, n);
            }
            int steps = kind == 'u' ? n : -n;
            return steps < 0 ? Line.lowered(number, -steps) : Line.raised(number, steps);
        }
    }

    /** What slots held ahead, the latest eight: a ring, so that the oldest one is written over. */
    private static final class Past {
        private static final int MOST_KEPT = 8;

        private final int[] keptSlots;
        private final long[] keptNumbers;
        private int latest;
        private int count;

        Past() {
            keptSlots = new int[MOST_KEPT];
            keptNumbers = new long[MOST_KEPT];
            latest = 0;
            count = 0;
        }

        boolean isEmpty() {
            return count == 0;
        }

        void keep(int slot, long number) {
            latest = (latest + 1) % MOST_KEPT;
            keptSlots[latest] = slot;
            keptNumbers[latest] = number;
            count = Math.min(count + 1, MOST_KEPT);
        }

        int latestSlot() {
            return keptSlots[latest];
        }

        long latestNumber() {
            return keptNumbers[latest];
        }

        void forgetLatest() {
            latest = (latest + MOST_KEPT - 1) % MOST_KEPT;
            count--;
        }
    }

    /** What is so of all numbers, checked for some: each part holds unless this program is wrong. */
    private static final class Theorem {
        static boolean holdsAt(long number) {
            return stepsHold(number) && stepsHold(Line.opposite(number)) && unitHolds(number) && powersHold(number);
        }

        static boolean holdsBetween(long one, long other) {
            return Line.order(one, other) == -Line.order(other, one) && stepHolds(one, other);
        }

        private static boolean stepsHold(long number) {
            long above = Line.raised(number, 1);
            if (number == Line.ENDLESS) {
                return above == number;
            }
            return Line.placeOf(above) == Line.placeOf(number) + 1
                    && Line.order(Line.lowered(above, 1), number) == 0;
        }

        /** The next size above is one unit more; above the greatest one there is none to be measured. */
        private static boolean unitHolds(long number) {
            long unit = Line.unitOf(number);
            if (Line.hasNoEnd(number)) {
                return unit == Line.ENDLESS;
            }
            long size = Line.sizeOf(number);
            long above = Line.raised(size, 1);
            return Line.hasNoEnd(above)
                    || Measure.signOfSum(above, Line.opposite(size), Line.opposite(unit), 0) == 0;
        }

        private static boolean powersHold(long number) {
            if (Line.isZero(number) || Line.hasNoEnd(number)) {
                return Line.scaled(number, 1) == number;
            }
            long size = Line.sizeOf(number);
            long power = Line.powerOfTwo(Line.leadOf(number));
            long twice = Line.scaled(number, 1);
            return Line.tailOf(number) <= Line.leadOf(number)
                    && Line.order(power, size) <= 0
                    && Line.order(size, Line.scaled(power, 1)) < 0
                    && (Line.hasNoEnd(twice) || Line.scaled(twice, -1) == number);
        }

        /** A step towards another number goes one place nearer, or becomes it at its place. */
        private static boolean stepHolds(long one, long other) {
            long next = Line.nearer(one, other);
            if (Line.order(one, other) == 0) {
                return next == other;
            }
            return Line.distance(next, other) == Line.distance(one, other) - 1;
        }
    }
}
