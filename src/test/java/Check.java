import java.util.NoSuchElementException;
import java.util.function.Consumer;
import java.util.function.Supplier;

/** What the tests share: it prints each answer that is not the one that is due, and counts them. */
final class Check {
    private static int wrong = 0;

    private Check() {
    }

    static void due(String call, long got, long want) {
        if (got != want) {
            report(call + " answered " + got + ", due is " + want);
        }
    }

    static void due(String call, boolean got, boolean want) {
        if (got != want) {
            report(call + " answered " + got + ", due is " + want);
        }
    }

    static void dueDouble(String call, double got, double want) {
        if (got != want) {
            report(call + " answered " + got + ", due is " + want);
        }
    }

    /** A call that must throw just this, and leave an object like one on which it was not made. */
    static void refused(String call, Supplier<Doubleline> made, Class<?> want, Consumer<Doubleline> refused) {
        Doubleline touched = made.get();
        Class<?> got = null;
        try {
            refused.accept(touched);
        } catch (RuntimeException e) {
            got = e.getClass();
        }
        if (got != want) {
            report(call + " threw " + got + ", due is " + want);
        }
        sameState(call, touched, made.get());
    }

    /** Compares the slots, the words, and what undo brings back; both objects are used up by it. */
    static void sameState(String call, Doubleline got, Doubleline want) {
        due(call + ", checksum afterwards", got.checksum(), want.checksum());
        for (int i = 0; i < 9; i++) {
            due(call + ", undo " + i + " afterwards", undone(got), undone(want));
            due(call + ", checksum after undo " + i, got.checksum(), want.checksum());
        }
        due(call + ", words afterwards", got.hush(), want.hush());
    }

    /** The slot, or -1 if nothing is kept. */
    static int undone(Doubleline line) {
        try {
            return line.undo();
        } catch (NoSuchElementException e) {
            return -1;
        }
    }

    /** Lets a slot become any double but NaN: six bits at a time by steps, then the power of 2. */
    static void put(Doubleline line, int slot, double x) {
        double size = Math.abs(x);
        if (Double.isInfinite(x)) {
            line.end(slot, true);
        } else {
            int shift = Math.max(Math.getExponent(size), -1022) + 1022;
            long whole = (long) Math.scalb(Math.scalb(size, -shift), 1074);
            line.set(slot, 0, 0);
            for (int from = 48; from >= 0; from -= 6) {
                line.scale(slot, 6, slot);
                line.up(slot, (int) (whole >> from & 63));
            }
            line.scale(slot, shift, slot);
        }
        if (Double.doubleToRawLongBits(x) < 0) {
            line.negate(slot, slot);
        }
        due("bits(" + slot + ") after " + x + " was put there", line.bits(slot), Double.doubleToRawLongBits(x));
    }

    /** A new object whose first slots hold some numbers. */
    static Doubleline with(double... numbers) {
        Doubleline line = new Doubleline();
        for (int i = 0; i < numbers.length; i++) {
            put(line, i, numbers[i]);
        }
        return line;
    }

    static void report(String text) {
        wrong++;
        if (wrong <= 50) {
            System.out.println(text);
        }
    }

    static void finish() {
        if (wrong > 0) {
            System.out.println(wrong + " answers are not as due");
            System.exit(1);
        }
    }
}
