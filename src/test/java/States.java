import java.util.function.Consumer;
import java.util.function.Supplier;

/**
 * The states in which a refused call could change something: with nothing kept and no word, with some,
 * and with eight kept and 40 words. Where anything is held, the slots 0, 1, 6 and 7 hold numbers that
 * have powers of 2, 2 and 3 the endless ones, 4 holds -0 and 5 holds 0.
 */
final class States {
    static final Supplier<Doubleline> EMPTY = Doubleline::new;
    static final Supplier<Doubleline> SOME = States::some;
    static final Supplier<Doubleline> FULL = States::full;
    static final int[] LED = {0, 1, 6, 7};
    static final int[] ENDLESS = {2, 3};
    static final int[] ZEROS = {4, 5};
    private static final char[] KINDS = {'u', 'd', 'x', 'n'};

    private States() {
    }

    private static Doubleline some() {
        Doubleline x = new Doubleline();
        x.set(0, 3, 127);
        x.set(1, -1, 0);
        x.set(6, 7, 40);
        x.set(7, -9, 200);
        x.end(2, true);
        x.end(3, false);
        x.negate(5, 4);
        x.say('u', 3);
        x.say('x', -2);
        return x;
    }

    private static Doubleline full() {
        Doubleline x = some();
        x.up(0, 5);
        x.down(1, 3);
        x.scale(6, 3, 6);
        x.negate(7, 7);
        x.up(7, 0);
        for (int i = 2; i < 40; i++) {
            x.say(KINDS[i % 4], i % 4 == 3 ? 0 : i % 9);
        }
        return x;
    }

    /** A call that is refused in whatever state, and changes nothing of it. */
    static void refusedInEach(String call, Class<?> want, Consumer<Doubleline> refused) {
        Check.refused(call + ", nothing kept", EMPTY, want, refused);
        refusedInHeld(call, want, refused);
    }

    /** A call that is refused wherever the slots hold what is told above. */
    static void refusedInHeld(String call, Class<?> want, Consumer<Doubleline> refused) {
        Check.refused(call + ", some kept", SOME, want, refused);
        Check.refused(call + ", eight kept", FULL, want, refused);
    }

    /** A call at a bound, just within. */
    static void accepted(String call, Consumer<Doubleline> made) {
        try {
            made.accept(some());
        } catch (RuntimeException e) {
            Check.report(call + " threw " + e.getClass() + ", due is an answer");
        }
    }
}
