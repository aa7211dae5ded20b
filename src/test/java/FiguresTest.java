import java.util.NoSuchElementException;
import java.util.function.Consumer;

/** Promises 39 to 43. */
public final class FiguresTest {
    private static final double ABOVE = Double.POSITIVE_INFINITY;
    private static final double LEAST = Double.MIN_VALUE;

    public static void main(String[] args) {
        undo();
        eachCallThatIsKept();
        callsThatAreNotKept();
        share();
        meanExponent();
        checksum();
        isSound();
        Check.finish();
    }

    private static void undo() {
        Check.refused("39: undo() of nothing", Doubleline::new, NoSuchElementException.class, Doubleline::undo);
        Doubleline x = new Doubleline();
        x.set(0, 1, 0);
        x.set(5, 2, 0);
        x.set(0, 3, 0);
        Check.due("39: undo()", x.undo(), 0);
        Check.due("39: place(0) after it", x.place(0), 1);
        Check.due("39: undo() again", x.undo(), 5);
        Check.due("39: place(5) after it", x.place(5), 0);
        x.negate(5, 5);
        x.set(5, 9, 0);
        Check.due("39: undo() back to -0", x.undo(), 5);
        Check.due("39: it is -0", x.bits(5), Long.MIN_VALUE);
        Check.due("39: undo() back to 0", x.undo(), 5);
        Check.due("39: undo() of the first", x.undo(), 0);
        Check.due("39: place(0) at last", x.place(0), 0);
        Check.due("39: none is left", Check.undone(x), -1);

        x = new Doubleline();
        for (int i = 1; i <= 20; i++) {
            x.set(i % 3, i, 0);
        }
        for (int i = 20; i > 12; i--) {
            Check.due("39: undo() of call " + i, x.undo(), i % 3);
            Check.due("39: place after it", x.place(i % 3), i - 3);
        }
        Check.due("39: at most eight are kept", Check.undone(x), -1);
        x.set(4, 1, 0);
        Check.due("39: it keeps again", x.undo(), 4);
        Check.due("39: just that", Check.undone(x), -1);
    }

    private static void eachCallThatIsKept() {
        kept("set", 1, x -> x.set(1, 5, 5));
        kept("set to the same", 1, x -> x.set(1, 3, 128));
        kept("end", 1, x -> x.end(1, true));
        kept("copy", 1, x -> x.copy(0, 1));
        kept("copy to itself", 1, x -> x.copy(1, 1));
        kept("negate", 1, x -> x.negate(0, 1));
        kept("up", 1, x -> x.up(1, 5));
        kept("up by none", 1, x -> x.up(1, 0));
        kept("down", 1, x -> x.down(1, 5));
        kept("down by none", 1, x -> x.down(1, 0));
        kept("toward", 1, x -> x.toward(1, 0, 5));
        kept("toward by none", 1, x -> x.toward(1, 0, 0));
        kept("middle", 1, x -> x.middle(0, 2, 1));
        kept("scale", 1, x -> x.scale(0, 1, 1));
        kept("unit", 1, x -> x.unit(0, 1));
        kept("power", 1, x -> x.power(0, 1));
        kept("play", 1, x -> x.play(0, 1));
        kept("playBack", 1, x -> x.playBack(0, 1));
    }

    /** A call on three slots must be undone by one undo, and nothing else be kept by it. */
    private static void kept(String name, int slot, Consumer<Doubleline> call) {
        Doubleline x = three();
        call.accept(x);
        Check.due("39: undo() of " + name, x.undo(), slot);
        Check.sameState("39: " + name, x, three());
    }

    private static Doubleline three() {
        Doubleline x = new Doubleline();
        x.say('u', 3);
        x.set(0, 5, 128);
        x.set(1, 3, 128);
        x.set(2, -7, 128);
        return x;
    }

    private static void callsThatAreNotKept() {
        Doubleline x = three();
        for (int i = 0; i < 3; i++) {
            x.place(i);
            x.bits(i);
            x.isEndless(i);
            x.isWhole(i);
            x.isSmall(i);
            x.walk(0, i);
            x.apart(0, i);
            x.areNext(0, i);
            x.halvings(0, i);
            x.compare(0, i);
            x.least();
            x.rank(i);
            x.isKept(i, -1);
            x.isOne(i, 1, 2);
            x.exponent(i);
            x.lead(i);
            x.tail(i);
            x.grains(i, 7);
            x.gap(0, i, 7);
            x.compareGaps(0, i, 1, 2);
            x.isHome(i);
            x.losses(i);
            x.share();
            x.meanExponent();
            x.checksum();
            x.isSound();
        }
        Check.sameState("39: calls that let nothing become anything", x, three());
        x = three();
        x.hush();
        x.say('d', 2);
        Check.due("39: undo() after words", x.undo(), 2);
        Check.due("39: the row is not brought back", x.hush(), 1);
    }

    private static void share() {
        Check.dueDouble("40: share() of zeros", new Doubleline().share(), 1f);
        Doubleline x = Check.with(1, -0.0, LEAST, -LEAST, Math.nextDown(Double.MIN_NORMAL), Double.MIN_NORMAL, ABOVE,
            -Double.MIN_NORMAL);
        Check.dueDouble("40: share()", x.share(), 0.5f);
        x.set(1, 1, 128);
        Check.dueDouble("40: share() of one less", x.share(), 0.375f);
        for (int i = 0; i < 8; i++) {
            x.end(i, i % 2 == 0);
        }
        Check.dueDouble("40: share() of endless ones", x.share(), 0f);
    }

    private static void meanExponent() {
        Check.dueDouble("41: meanExponent() of zeros", new Doubleline().meanExponent(), -1023);
        Doubleline x = Check.with(1, 2, -4, 0.5, ABOVE, Double.NEGATIVE_INFINITY, -0.0, 1e-310);
        Check.dueDouble("41: meanExponent()", x.meanExponent(), (0 + 1 + 2 - 1 + 1024 + 1024 - 1023 - 1023) / 8.0);
        x = Check.with(Double.MIN_NORMAL, Double.MAX_VALUE, 3, 1, 1, 1, 1, 1);
        Check.dueDouble("41: meanExponent() of some", x.meanExponent(), (-1022 + 1023 + 1) / 8.0);
    }

    private static void checksum() {
        Model model = new Model();
        Doubleline x = new Doubleline();
        Check.due("42: checksum() of a new object", x.checksum(), model.checksum());
        double[] numbers = {1, -1, -0.0, LEAST, ABOVE, Double.NEGATIVE_INFINITY, Math.PI, -1e-310};
        x = Check.with(numbers);
        System.arraycopy(numbers, 0, model.slots, 0, 8);
        Check.due("42: checksum() of slots", x.checksum(), model.checksum());
        char[] kinds = {'u', 'd', 'x', 'n', 'x'};
        int[] counts = {3, 15, -40, 0, 7};
        for (int i = 0; i < kinds.length; i++) {
            x.say(kinds[i], counts[i]);
            model.kinds.add(kinds[i]);
            model.counts.add(counts[i]);
            Check.due("42: checksum() with words", x.checksum(), model.checksum());
        }
        long ahead = x.checksum();
        x.set(3, 7, 7);
        x.undo();
        Check.due("42: what is kept does not count", x.checksum(), ahead);
    }

    /** The theorem is one, so that it holds for every state, also where a row does not lead home. */
    private static void isSound() {
        Check.due("43: isSound() of a new object", new Doubleline().isSound(), true);
        double[][] states = {
            {0.0, -0.0, LEAST, -LEAST, Double.MIN_NORMAL, -Double.MIN_NORMAL, ABOVE, Double.NEGATIVE_INFINITY},
            {1, -1, Math.PI, Double.MAX_VALUE, -Double.MAX_VALUE, Math.nextDown(Double.MIN_NORMAL), 1e-310, 0x1p1023},
        };
        for (double[] state : states) {
            Doubleline x = Check.with(state);
            Check.due("43: isSound()", x.isSound(), true);
            x.say('u', 1);
            Check.due("43: isSound() with a step that -0 loses", x.isSound(), true);
            x.say('x', -40);
            Check.due("43: isSound() with halvings that lose", x.isSound(), true);
            long ahead = x.checksum();
            x.isSound();
            Check.due("43: isSound() changes nothing", x.checksum(), ahead);
        }
    }
}
