import java.math.BigDecimal;
import java.math.BigInteger;
import java.util.ArrayDeque;
import java.util.ArrayList;
import java.util.List;

/** The document over again with the JDK's own doubles and exact decimals, to compare the program with. */
final class Model {
    static final BigDecimal GRAINS_OF_ONE = new BigDecimal(BigInteger.ONE.shiftLeft(1074));

    final double[] slots = new double[8];
    final List<Character> kinds = new ArrayList<>();
    final List<Integer> counts = new ArrayList<>();
    final ArrayDeque<Object[]> kept = new ArrayDeque<>();

    static long place(double x) {
        return x > 0 ? Double.doubleToLongBits(x) : x < 0 ? -Double.doubleToLongBits(-x) : 0;
    }

    static double atPlace(long place) {
        return place >= 0 ? Double.longBitsToDouble(place) : -Double.longBitsToDouble(-place);
    }

    static boolean same(double a, double b) {
        return Double.doubleToRawLongBits(a) == Double.doubleToRawLongBits(b);
    }

    static double handed(int factor, int power) {
        if (factor == 0) {
            return 0;
        }
        int e = power < 64 ? power - 1074 : power < 192 ? power - 128 : power + 761;
        return Math.scalb((double) factor, e);
    }

    long become(int to, double x) {
        kept.push(new Object[] {to, slots[to]});
        if (kept.size() > 8) {
            kept.removeLast();
        }
        slots[to] = x;
        return place(x);
    }

    /** The slot, or -1 if nothing is kept. */
    int undo() {
        if (kept.isEmpty()) {
            return -1;
        }
        Object[] latest = kept.pop();
        slots[(Integer) latest[0]] = (Double) latest[1];
        return (Integer) latest[0];
    }

    int up(int slot, int steps) {
        double x = slots[slot];
        int changes = 0;
        for (int i = 0; i < steps; i++) {
            changes += same(x, Math.nextUp(x)) ? 0 : 1;
            x = Math.nextUp(x);
        }
        become(slot, x);
        return changes;
    }

    int down(int slot, int steps) {
        double x = slots[slot];
        int changes = 0;
        for (int i = 0; i < steps; i++) {
            changes += same(x, Math.nextDown(x)) ? 0 : 1;
            x = Math.nextDown(x);
        }
        become(slot, x);
        return changes;
    }

    int toward(int slot, int other, int steps) {
        double x = slots[slot];
        double goal = slots[other];
        int changes = 0;
        for (int i = 0; i < steps; i++) {
            double next = Math.nextAfter(x, goal);
            changes += same(x, next) ? 0 : 1;
            x = next;
        }
        become(slot, x);
        return changes;
    }

    int walk(int one, int other) {
        double x = slots[one];
        for (int i = 0; i <= 64; i++) {
            if (place(x) == place(slots[other])) {
                return i;
            }
            x = Math.nextAfter(x, slots[other]);
        }
        return -1;
    }

    static BigInteger exactApart(double a, double b) {
        return BigInteger.valueOf(place(a)).subtract(BigInteger.valueOf(place(b))).abs();
    }

    long apart(int one, int other) {
        return exactApart(slots[one], slots[other]).longValue();
    }

    boolean areNext(int one, int other) {
        return exactApart(slots[one], slots[other]).equals(BigInteger.ONE);
    }

    static double between(double a, double b) {
        BigInteger sum = BigInteger.valueOf(place(a)).add(BigInteger.valueOf(place(b)));
        return atPlace(sum.shiftRight(1).longValueExact());
    }

    int halvings(int one, int other) {
        double x = slots[one];
        int count = 0;
        while (exactApart(x, slots[other]).compareTo(BigInteger.ONE) > 0) {
            x = between(x, slots[other]);
            count++;
        }
        return count;
    }

    int compare(int one, int other) {
        return Long.compare(place(slots[one]), place(slots[other]));
    }

    int least() {
        int found = 0;
        for (int i = 1; i < 8; i++) {
            found = slots[i] < slots[found] ? i : found;
        }
        return found;
    }

    int rank(int slot) {
        int lesser = 0;
        for (double other : slots) {
            lesser += other < slots[slot] ? 1 : 0;
        }
        return lesser;
    }

    static boolean isLed(double x) {
        return x != 0 && !Double.isInfinite(x);
    }

    static BigInteger grainsOf(double x) {
        return new BigDecimal(x).multiply(GRAINS_OF_ONE).toBigIntegerExact();
    }

    static int lead(double x) {
        return grainsOf(x).abs().bitLength() - 1 - 1074;
    }

    static int tail(double x) {
        return grainsOf(x).getLowestSetBit() - 1074;
    }

    static double power(double x) {
        return Math.scalb(1.0, lead(x));
    }

    static boolean isWhole(double x) {
        return !Double.isInfinite(x) && x == Math.rint(x);
    }

    int grains(int slot, int modulus) {
        return grainsOf(slots[slot]).abs().mod(BigInteger.valueOf(modulus)).intValue();
    }

    BigInteger exactGap(int one, int other) {
        return grainsOf(slots[one]).subtract(grainsOf(slots[other])).abs();
    }

    int gap(int one, int other, int modulus) {
        return exactGap(one, other).mod(BigInteger.valueOf(modulus)).intValue();
    }

    int compareGaps(int one, int other, int third, int fourth) {
        return exactGap(one, other).compareTo(exactGap(third, fourth));
    }

    int say(char kind, int n) {
        boolean isWord = kind == 'u' || kind == 'd' ? 0 <= n && n <= 15
                : kind == 'x' ? -40 <= n && n <= 40 : kind == 'n' && n == 0;
        if (!isWord) {
            throw new IllegalArgumentException();
        }
        if (kinds.size() == 40) {
            throw new IllegalStateException();
        }
        kinds.add(kind);
        counts.add(n);
        return kinds.size();
    }

    int hush() {
        int size = kinds.size();
        kinds.clear();
        counts.clear();
        return size;
    }

    static double word(char kind, int n, double x) {
        switch (kind) {
            case 'u':
                for (int i = 0; i < n; i++) {
                    x = Math.nextUp(x);
                }
                return x;
            case 'd':
                for (int i = 0; i < n; i++) {
                    x = Math.nextDown(x);
                }
                return x;
            case 'x':
                return Math.scalb(x, n);
            default:
                return -x;
        }
    }

    static double turnedRound(char kind, int n, double x) {
        char round = kind == 'u' ? 'd' : kind == 'd' ? 'u' : kind;
        return word(round, kind == 'x' ? -n : n, x);
    }

    double played(double x) {
        for (int i = 0; i < kinds.size(); i++) {
            x = word(kinds.get(i), counts.get(i), x);
        }
        return x;
    }

    double playedBack(double x) {
        for (int i = kinds.size() - 1; i >= 0; i--) {
            x = turnedRound(kinds.get(i), counts.get(i), x);
        }
        return x;
    }

    int losses(double x) {
        int lost = 0;
        for (int i = 0; i < kinds.size(); i++) {
            double next = word(kinds.get(i), counts.get(i), x);
            lost += same(turnedRound(kinds.get(i), counts.get(i), next), x) ? 0 : 1;
            x = next;
        }
        return lost;
    }

    float share() {
        int small = 0;
        for (double x : slots) {
            small += Math.abs(x) < Double.MIN_NORMAL ? 1 : 0;
        }
        return small / 8f;
    }

    double meanExponent() {
        int sum = 0;
        for (double x : slots) {
            sum += Math.getExponent(x);
        }
        return sum / 8.0;
    }

    long checksum() {
        long sum = 7;
        for (double x : slots) {
            sum = 31 * sum + Double.doubleToRawLongBits(x);
        }
        sum = 31 * sum + kinds.size();
        for (int i = 0; i < kinds.size(); i++) {
            sum = 31 * sum + kinds.get(i);
            sum = 31 * sum + counts.get(i);
        }
        return sum;
    }
}
