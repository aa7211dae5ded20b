import java.util.NoSuchElementException;

/** Long runs of calls, chosen by a fixed row of numbers, each answer compared with the model's. */
public final class RunsTest {
    private static final int RUNS = 800;
    private static final int CALLS = 512; // what an object answers after as many calls is free
    private static final char[] KINDS = {'u', 'd', 'x', 'n', 'a'};
    private static final int METHODS = 42;

    private long seed = 20261118;
    private Doubleline x;
    private Model model;

    public static void main(String[] args) {
        RunsTest test = new RunsTest();
        for (int i = 0; i < RUNS; i++) {
            test.run(i);
        }
        Check.finish();
    }

    private void run(int index) {
        x = new Doubleline();
        model = new Model();
        int wide = index % 4;
        boolean isWatched = index / 4 % 2 == 0;
        int calls = isWatched ? CALLS / 2 : CALLS - 1; // the state that is looked at costs a call too
        for (int i = 0; i < calls; i++) {
            int method = below(3) == 0 ? below(METHODS) : wide == 0 ? below(9) : below(METHODS);
            int[] a = {slot(), slot(), slot(), slot()};
            int n = number(wide);
            int m = number(wide);
            String call = "run " + index + ", call " + i + ", method " + method + " (" + a[0] + ", " + a[1] + ", "
                    + a[2] + ", " + a[3] + ", " + n + ", " + m + ")";
            String want = answer(() -> modelAnswer(method, a, n, m));
            String got = answer(() -> programAnswer(method, a, n, m));
            if (!got.equals(want)) {
                Check.report(call + " answered " + got + ", due is " + want);
                return;
            }
            if ((isWatched || i == calls - 1) && x.checksum() != model.checksum()) {
                Check.report(call + " left another state than is due");
                return;
            }
        }
    }

    private int below(int bound) {
        seed = seed * 6364136223846793005L + 1442695040888963407L;
        return (int) ((seed >>> 33) % bound);
    }

    private int slot() {
        return below(60) == 0 ? below(2) * 9 - 1 : below(8);
    }

    private int number(int wide) {
        switch (below(wide == 1 ? 3 : 6)) {
            case 0:
                return below(5) - 2;
            case 1:
                return below(66);
            case 2:
                return below(81) - 40;
            case 3:
                return below(259) - 1;
            case 4:
                return below(4500) - 2250;
            default:
                return below(9000) - 4500;
        }
    }

    private static int modulus(int n, int m) {
        return n % 97 == 0 ? n : (Math.abs(n) * 223 + Math.abs(m)) % 1000000 + 1;
    }

    private interface Call {
        Object answered();
    }

    private static String answer(Call call) {
        try {
            return String.valueOf(call.answered());
        } catch (RuntimeException e) {
            return "throws." + e.getClass().getSimpleName();
        }
    }

    private Object programAnswer(int method, int[] a, int n, int m) {
        int s = a[0];
        int t = a[1];
        switch (method) {
            case 0: return x.set(s, n, m);
            case 1: return x.up(s, n);
            case 2: return x.down(s, n);
            case 3: return x.scale(s, n, t);
            case 4: return x.middle(s, t, a[2]);
            case 5: return x.negate(s, t);
            case 6: return x.toward(s, t, n);
            case 7: return x.say(KINDS[Math.abs(m) % 5], n);
            case 8: return x.play(s, t);
            case 9: return x.playBack(s, t);
            case 10: return x.end(s, (n & 1) == 0);
            case 11: return x.copy(s, t);
            case 12: return x.place(s);
            case 13: return x.bits(s);
            case 14: return x.isEndless(s);
            case 15: return x.isWhole(s);
            case 16: return x.isSmall(s);
            case 17: return x.walk(s, t);
            case 18: return x.apart(s, t);
            case 19: return x.areNext(s, t);
            case 20: return x.halvings(s, t);
            case 21: return x.compare(s, t);
            case 22: return x.least();
            case 23: return x.rank(s);
            case 24: return x.isKept(s, n);
            case 25: return x.isOne(s, n, m);
            case 26: return x.exponent(s);
            case 27: return x.unit(s, t);
            case 28: return x.lead(s);
            case 29: return x.tail(s);
            case 30: return x.power(s, t);
            case 31: return x.grains(s, modulus(n, m));
            case 32: return x.gap(s, t, modulus(n, m));
            case 33: return x.compareGaps(s, t, a[2], a[3]);
            case 34: return n % 8 == 0 ? x.hush() : 0;
            case 35: return x.isHome(s);
            case 36: return x.losses(s);
            case 37: return x.undo();
            case 38: return x.share();
            case 39: return x.meanExponent();
            case 40: return x.checksum();
            default: return x.isSound();
        }
    }

    private Object modelAnswer(int method, int[] a, int n, int m) {
        int s = a[0];
        int t = a[1];
        checkModelArguments(method, a, n, m);
        double[] slots = model.slots;
        switch (method) {
            case 0: return model.become(s, Model.handed(n, m));
            case 1: return model.up(s, n);
            case 2: return model.down(s, n);
            case 3: return model.become(t, Math.scalb(slots[s], n));
            case 4: return model.become(a[2], Model.between(slots[s], slots[t]));
            case 5: return model.become(t, -slots[s]);
            case 6: return model.toward(s, t, n);
            case 7: return model.say(KINDS[Math.abs(m) % 5], n);
            case 8: return model.become(t, model.played(slots[s]));
            case 9: return model.become(t, model.playedBack(slots[s]));
            case 10: return model.become(s, (n & 1) == 0 ? Double.POSITIVE_INFINITY : Double.NEGATIVE_INFINITY);
            case 11: return model.become(t, slots[s]);
            case 12: return Model.place(slots[s]);
            case 13: return Double.doubleToRawLongBits(slots[s]);
            case 14: return Double.isInfinite(slots[s]);
            case 15: return Model.isWhole(slots[s]);
            case 16: return Math.abs(slots[s]) < Double.MIN_NORMAL;
            case 17: return model.walk(s, t);
            case 18: return model.apart(s, t);
            case 19: return model.areNext(s, t);
            case 20: return model.halvings(s, t);
            case 21: return model.compare(s, t);
            case 22: return model.least();
            case 23: return model.rank(s);
            case 24: return Model.same(Math.scalb(Math.scalb(slots[s], n), -n), slots[s]);
            case 25: return Model.same(Math.scalb(Math.scalb(slots[s], n), m), Math.scalb(slots[s], n + m));
            case 26: return Math.getExponent(slots[s]);
            case 27: return model.become(t, Math.ulp(slots[s]));
            case 28: return Model.lead(slots[s]);
            case 29: return Model.tail(slots[s]);
            case 30: return model.become(t, Model.power(slots[s]));
            case 31: return model.grains(s, modulus(n, m));
            case 32: return model.gap(s, t, modulus(n, m));
            case 33: return model.compareGaps(s, t, a[2], a[3]);
            case 34: return n % 8 == 0 ? model.hush() : 0;
            case 35: return Model.same(model.playedBack(model.played(slots[s])), slots[s]);
            case 36: return model.losses(slots[s]);
            case 37: return undoneOrThrown();
            case 38: return model.share();
            case 39: return model.meanExponent();
            case 40: return model.checksum();
            default: return true;
        }
    }

    private int undoneOrThrown() {
        int slot = model.undo();
        if (slot < 0) {
            throw new NoSuchElementException();
        }
        return slot;
    }

    /** How many slots each method takes, by its number above. */
    private static final int[] SLOTS_OF = {1, 1, 1, 2, 3, 2, 2, 0, 2, 2, 1, 2, 1, 1, 1, 1, 1, 2, 2, 2, 2, 2, 0, 1, 1,
        1, 1, 2, 1, 1, 2, 1, 2, 4, 0, 1, 1, 0, 0, 0, 0, 0};

    private void checkModelArguments(int method, int[] a, int n, int m) {
        for (int i = 0; i < SLOTS_OF[method]; i++) {
            if (a[i] < 0 || a[i] > 7) {
                throw new IndexOutOfBoundsException();
            }
        }
        if (isOutOfRange(method, n, m)) {
            throw new IllegalArgumentException();
        }
        double number = a[0] >= 0 && a[0] < 8 ? model.slots[a[0]] : 0;
        if (method >= 28 && method <= 30 && !Model.isLed(number)) {
            throw new ArithmeticException();
        }
        for (int i = 0; method >= 31 && method <= 33 && i < SLOTS_OF[method]; i++) {
            if (Double.isInfinite(model.slots[a[i]])) {
                throw new IllegalStateException();
            }
        }
    }

    private static boolean isOutOfRange(int method, int n, int m) {
        switch (method) {
            case 0:
                return n < -128 || n > 127 || m < 0 || m > 255;
            case 1:
            case 2:
            case 6:
                return n < 0 || n > 64;
            case 3:
            case 24:
                return n < -4200 || n > 4200;
            case 25:
                return n < -2100 || n > 2100 || m < -2100 || m > 2100;
            case 31:
            case 32:
                return modulus(n, m) < 1 || modulus(n, m) > 1000000;
            default:
                return false;
        }
    }
}
