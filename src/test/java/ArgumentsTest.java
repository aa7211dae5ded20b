/**
 * The bounds of each argument, what each "Throws" names, which exception is thrown where several apply, and
 * that a refused call changes nothing. A call is written as one with some slots and with one other number.
 */
public final class ArgumentsTest {
    private static final Class<?> NO_SLOT = IndexOutOfBoundsException.class;
    private static final Class<?> OUT_OF_RANGE = IllegalArgumentException.class;
    private static final Class<?> NO_POWER = ArithmeticException.class;
    private static final Class<?> NO_STATE = IllegalStateException.class;
    private static final int LEAST_INT = Integer.MIN_VALUE;
    private static final int GREATEST_INT = Integer.MAX_VALUE;

    private interface SlotCall {
        void make(Doubleline x, int... slots);
    }

    private interface RangeCall {
        void make(Doubleline x, int n);
    }

    public static void main(String[] args) {
        numbersTakeSlots();
        stepsTakeSlots();
        orderTakesSlots();
        scalingTakesSlots();
        measuringTakesSlots();
        wordsTakeSlots();
        ranges();
        kinds();
        noSlotIsThrownFirst();
        outOfRangeIsThrownAheadOfEndless();
        noWordIsThrownAheadOfFull();
        numbersWithoutPower();
        endlessNumbers();
        fullRow();
        Check.finish();
    }

    private static void numbersTakeSlots() {
        slots("2: set", 1, (x, s) -> x.set(s[0], 1, 1));
        slots("3: end", 1, (x, s) -> x.end(s[0], false));
        slots("4: copy", 2, (x, s) -> x.copy(s[0], s[1]));
        slots("5: negate", 2, (x, s) -> x.negate(s[0], s[1]));
        slots("6: place", 1, (x, s) -> x.place(s[0]));
        slots("7: bits", 1, (x, s) -> x.bits(s[0]));
        slots("8: isEndless", 1, (x, s) -> x.isEndless(s[0]));
        slots("9: isWhole", 1, (x, s) -> x.isWhole(s[0]));
        slots("10: isSmall", 1, (x, s) -> x.isSmall(s[0]));
    }

    private static void stepsTakeSlots() {
        slots("11: up", 1, (x, s) -> x.up(s[0], 1));
        slots("12: down", 1, (x, s) -> x.down(s[0], 1));
        slots("13: toward", 2, (x, s) -> x.toward(s[0], s[1], 1));
        slots("14: walk", 2, (x, s) -> x.walk(s[0], s[1]));
        slots("15: apart", 2, (x, s) -> x.apart(s[0], s[1]));
        slots("16: areNext", 2, (x, s) -> x.areNext(s[0], s[1]));
        slots("17: middle", 3, (x, s) -> x.middle(s[0], s[1], s[2]));
        slots("18: halvings", 2, (x, s) -> x.halvings(s[0], s[1]));
    }

    private static void orderTakesSlots() {
        slots("19: compare", 2, (x, s) -> x.compare(s[0], s[1]));
        slots("21: rank", 1, (x, s) -> x.rank(s[0]));
    }

    private static void scalingTakesSlots() {
        slots("22: scale", 2, (x, s) -> x.scale(s[0], 1, s[1]));
        slots("23: isKept", 1, (x, s) -> x.isKept(s[0], 1));
        slots("24: isOne", 1, (x, s) -> x.isOne(s[0], 1, 1));
        slots("25: exponent", 1, (x, s) -> x.exponent(s[0]));
        slots("26: unit", 2, (x, s) -> x.unit(s[0], s[1]));
        slots("27: lead", 1, (x, s) -> x.lead(s[0]));
        slots("28: tail", 1, (x, s) -> x.tail(s[0]));
        slots("29: power", 2, (x, s) -> x.power(s[0], s[1]));
    }

    private static void measuringTakesSlots() {
        slots("30: grains", 1, (x, s) -> x.grains(s[0], 7));
        slots("31: gap", 2, (x, s) -> x.gap(s[0], s[1], 7));
        slots("32: compareGaps", 4, (x, s) -> x.compareGaps(s[0], s[1], s[2], s[3]));
    }

    private static void wordsTakeSlots() {
        slots("35: play", 2, (x, s) -> x.play(s[0], s[1]));
        slots("36: playBack", 2, (x, s) -> x.playBack(s[0], s[1]));
        slots("37: isHome", 1, (x, s) -> x.isHome(s[0]));
        slots("38: losses", 1, (x, s) -> x.losses(s[0]));
    }

    /** "the slot, 0 to 7", "if there is no such slot", "for any": each slot of a call at its bounds. */
    private static void slots(String name, int count, SlotCall call) {
        for (int at = 0; at < count; at++) {
            for (int good : new int[] {0, 7}) {
                int[] slots = withOne(States.LED, count, at, good);
                States.accepted(written(name, slots), x -> call.make(x, slots));
            }
        }
        noSlots(name, count, States.LED, call);
    }

    private static void noSlots(String name, int count, int[] others, SlotCall call) {
        for (int at = 0; at < count; at++) {
            for (int bad : new int[] {-1, 8, LEAST_INT, GREATEST_INT}) {
                int[] slots = withOne(others, count, at, bad);
                States.refusedInEach(written(name, slots), NO_SLOT, x -> call.make(x, slots));
            }
        }
    }

    /** As many slots of the others as a call takes, but one of them put in. */
    private static int[] withOne(int[] others, int count, int at, int slot) {
        int[] slots = new int[count];
        for (int i = 0; i < count; i++) {
            slots[i] = i == at ? slot : others[i % others.length];
        }
        return slots;
    }

    private static String written(String name, int[] slots) {
        return name + " with the slots " + java.util.Arrays.toString(slots);
    }

    private static void ranges() {
        range("2: factor", -128, 127, (x, n) -> x.set(0, n, 9));
        range("2: power", 0, 255, (x, n) -> x.set(0, 9, n));
        range("11: steps up", 0, 64, (x, n) -> x.up(0, n));
        range("12: steps down", 0, 64, (x, n) -> x.down(0, n));
        range("13: steps", 0, 64, (x, n) -> x.toward(0, 1, n));
        range("22: k", -4200, 4200, (x, n) -> x.scale(0, n, 1));
        range("23: k", -4200, 4200, (x, n) -> x.isKept(0, n));
        range("24: j", -2100, 2100, (x, n) -> x.isOne(0, n, 0));
        range("24: k", -2100, 2100, (x, n) -> x.isOne(0, 0, n));
        range("30: modulus", 1, 1000000, (x, n) -> x.grains(0, n));
        range("31: modulus", 1, 1000000, (x, n) -> x.gap(0, 1, n));
        range("33: n of 'u'", 0, 15, (x, n) -> x.say('u', n));
        range("33: n of 'd'", 0, 15, (x, n) -> x.say('d', n));
        range("33: n of 'x'", -40, 40, (x, n) -> x.say('x', n));
        range("33: n of 'n'", 0, 0, (x, n) -> x.say('n', n));
    }

    /** "if a number is out of range": the numbers at the bounds, just beyond them, and far beyond them. */
    private static void range(String name, int from, int to, RangeCall call) {
        for (int good : new int[] {from, to}) {
            States.accepted(name + " " + good, x -> call.make(x, good));
        }
        for (int bad : new int[] {from - 1, to + 1, LEAST_INT, GREATEST_INT}) {
            States.refusedInEach(name + " " + bad, OUT_OF_RANGE, x -> call.make(x, bad));
        }
    }

    /** "if there is no such kind": the chars next to each kind, the capital ones, and the last of all. */
    private static void kinds() {
        for (char good : new char[] {'u', 'd', 'x', 'n'}) {
            States.accepted("33: kind " + good, x -> x.say(good, 0));
        }
        for (char bad : new char[] {'t', 'v', 'c', 'e', 'w', 'y', 'm', 'o', 'U', 'D', 'X', 'N', 0, 0xFFFF}) {
            States.refusedInEach("33: kind " + (int) bad, OUT_OF_RANGE, x -> x.say(bad, 0));
        }
    }

    /** "the one that is documented first is thrown": no such slot, ahead of whatever else is wrong. */
    private static void noSlotIsThrownFirst() {
        noSlots("2: set(.., 128, 1)", 1, States.LED, (x, s) -> x.set(s[0], 128, 1));
        noSlots("2: set(.., 1, 256)", 1, States.LED, (x, s) -> x.set(s[0], 1, 256));
        noSlots("11: up(.., 65)", 1, States.LED, (x, s) -> x.up(s[0], 65));
        noSlots("12: down(.., 65)", 1, States.LED, (x, s) -> x.down(s[0], 65));
        noSlots("13: toward(.., 65)", 2, States.LED, (x, s) -> x.toward(s[0], s[1], 65));
        noSlots("22: scale(.., 4201)", 2, States.LED, (x, s) -> x.scale(s[0], 4201, s[1]));
        noSlots("23: isKept(.., 4201)", 1, States.LED, (x, s) -> x.isKept(s[0], 4201));
        noSlots("24: isOne(.., 2101, 0)", 1, States.LED, (x, s) -> x.isOne(s[0], 2101, 0));
        noSlots("24: isOne(.., 0, 2101)", 1, States.LED, (x, s) -> x.isOne(s[0], 0, 2101));
        noSlots("29: power of an endless one", 2, States.ENDLESS, (x, s) -> x.power(s[0], s[1]));
        noSlots("29: power of a zero", 2, States.ZEROS, (x, s) -> x.power(s[0], s[1]));
        noSlots("30: grains(.., 0)", 1, States.LED, (x, s) -> x.grains(s[0], 0));
        noSlots("31: gap(.., 0)", 2, States.LED, (x, s) -> x.gap(s[0], s[1], 0));
        noSlots("31: gap of an endless one", 2, States.ENDLESS, (x, s) -> x.gap(s[0], s[1], 7));
        noSlots("31: gap of an endless one, 0", 2, States.ENDLESS, (x, s) -> x.gap(s[0], s[1], 0));
        noSlots("32: compareGaps of endless ones", 4, States.ENDLESS,
                (x, s) -> x.compareGaps(s[0], s[1], s[2], s[3]));
    }

    /** "the one that is documented first is thrown": out of range, ahead of an endless number. */
    private static void outOfRangeIsThrownAheadOfEndless() {
        for (int endless : States.ENDLESS) {
            for (int bad : new int[] {0, 1000001}) {
                String at = "(" + endless + ", " + bad + ")";
                States.refusedInHeld("30: grains" + at, OUT_OF_RANGE, x -> x.grains(endless, bad));
                States.refusedInHeld("31: gap, first" + at, OUT_OF_RANGE, x -> x.gap(endless, 0, bad));
                States.refusedInHeld("31: gap, second" + at, OUT_OF_RANGE, x -> x.gap(0, endless, bad));
            }
        }
    }

    /** "the one that is documented first is thrown": no such word, ahead of 40 of them. */
    private static void noWordIsThrownAheadOfFull() {
        Check.refused("33: u16 of 40", States.FULL, OUT_OF_RANGE, x -> x.say('u', 16));
        Check.refused("33: d-1 of 40", States.FULL, OUT_OF_RANGE, x -> x.say('d', -1));
        Check.refused("33: x41 of 40", States.FULL, OUT_OF_RANGE, x -> x.say('x', 41));
        Check.refused("33: n1 of 40", States.FULL, OUT_OF_RANGE, x -> x.say('n', 1));
        Check.refused("33: a0 of 40", States.FULL, OUT_OF_RANGE, x -> x.say('a', 0));
    }

    /** "if the number is 0, -0 or endless", above or below 0. */
    private static void numbersWithoutPower() {
        for (int slot : new int[] {2, 3, 4, 5}) {
            States.refusedInHeld("27: lead(" + slot + ")", NO_POWER, x -> x.lead(slot));
            States.refusedInHeld("28: tail(" + slot + ")", NO_POWER, x -> x.tail(slot));
            States.refusedInHeld("29: power(" + slot + ", 0)", NO_POWER, x -> x.power(slot, 0));
            States.refusedInHeld("29: power(" + slot + ") to itself", NO_POWER, x -> x.power(slot, slot));
        }
        Check.refused("27: lead of a new slot", States.EMPTY, NO_POWER, x -> x.lead(7));
        Check.refused("28: tail of a new slot", States.EMPTY, NO_POWER, x -> x.tail(7));
        Check.refused("29: power of a new slot", States.EMPTY, NO_POWER, x -> x.power(7, 7));
    }

    /** "if a number is endless": any of them, above or below 0, also one less itself. */
    private static void endlessNumbers() {
        for (int slot : States.ENDLESS) {
            States.refusedInHeld("30: grains(" + slot + ")", NO_STATE, x -> x.grains(slot, 1));
            States.refusedInHeld("31: gap(" + slot + ", 0)", NO_STATE, x -> x.gap(slot, 0, 1));
            States.refusedInHeld("31: gap(0, " + slot + ")", NO_STATE, x -> x.gap(0, slot, 1));
            States.refusedInHeld("31: gap of " + slot + " and itself", NO_STATE, x -> x.gap(slot, slot, 1));
            States.refusedInHeld("32: first " + slot, NO_STATE, x -> x.compareGaps(slot, 0, 0, 0));
            States.refusedInHeld("32: second " + slot, NO_STATE, x -> x.compareGaps(0, slot, 0, 0));
            States.refusedInHeld("32: third " + slot, NO_STATE, x -> x.compareGaps(0, 0, slot, 0));
            States.refusedInHeld("32: fourth " + slot, NO_STATE, x -> x.compareGaps(0, 0, 0, slot));
        }
        for (int zero : States.ZEROS) {
            States.accepted("30: grains of a zero", x -> x.grains(zero, 1));
            States.accepted("31: gap of a zero", x -> x.gap(zero, zero, 1));
            States.accepted("32: gaps of a zero", x -> x.compareGaps(zero, zero, zero, zero));
        }
    }

    /** "if there are 40": the words 1 to 40 are taken, the next one is not, whatever it is. */
    private static void fullRow() {
        Doubleline x = new Doubleline();
        for (int i = 1; i <= 40; i++) {
            Check.due("33: word " + i, x.say('x', 41 - i), i);
        }
        Check.refused("33: a 41st u", States.FULL, NO_STATE, y -> y.say('u', 1));
        Check.refused("33: a 41st d", States.FULL, NO_STATE, y -> y.say('d', 15));
        Check.refused("33: a 41st x", States.FULL, NO_STATE, y -> y.say('x', -40));
        Check.refused("33: a 41st n", States.FULL, NO_STATE, y -> y.say('n', 0));
        Check.refused("33: a 41st word after an undo", () -> undone(States.FULL.get()), NO_STATE, y -> y.say('u', 0));
    }

    private static Doubleline undone(Doubleline x) {
        x.undo();
        return x;
    }
}
