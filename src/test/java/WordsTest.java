import java.util.function.Supplier;

/** Promises 33 to 38. */
public final class WordsTest {
    private static final Class<?> NO_SLOT = IndexOutOfBoundsException.class;
    private static final Class<?> OUT_OF_RANGE = IllegalArgumentException.class;
    private static final Class<?> FULL = IllegalStateException.class;
    private static final Supplier<Doubleline> SOME = () -> saying(Check.with(1.5, -3, 0.0, -0.0), "u3 x-2 n0 d1");
    private static final double[] NUMBERS = {0.0, -0.0, Double.MIN_VALUE, -Double.MIN_VALUE, 5 * Double.MIN_VALUE, 1,
        -1, 7e-310, Double.MIN_NORMAL, Double.MAX_VALUE, -Double.MAX_VALUE, Double.POSITIVE_INFINITY,
        Double.NEGATIVE_INFINITY};
    private static final String[] ROWS = {"", "u1", "d1", "u0", "d0", "n0", "x0", "x1", "x-1", "x40", "x-40", "u15 d15",
        "d15 u15", "u3 x-40 n0 d2", "x-1 x1", "n0 n0", "x40 x40 x-40", "u15 x-3 d7 n0 x9 u1", "x-40 x-40 x40 x40",
        "d1 u1 n0 d1", "u1 n0 u1 n0 x-1 u2"};

    public static void main(String[] args) {
        say();
        sayRefuses();
        hush();
        rows();
        roundZero();
        noSuchSlot();
        Check.finish();
    }

    /** Says words, each written as its kind and its number. */
    private static Doubleline saying(Doubleline x, String row) {
        for (String word : row.isEmpty() ? new String[0] : row.split(" ")) {
            x.say(word.charAt(0), Integer.parseInt(word.substring(1)));
        }
        return x;
    }

    private static Doubleline full() {
        Doubleline x = Check.with(1.5);
        for (int i = 0; i < 40; i++) {
            x.say('x', i);
        }
        return x;
    }

    private static void say() {
        Doubleline x = new Doubleline();
        char[] kinds = {'u', 'u', 'd', 'd', 'x', 'x', 'n'};
        int[] counts = {0, 15, 0, 15, -40, 40, 0};
        for (int i = 0; i < kinds.length; i++) {
            Check.due("33: say " + kinds[i] + counts[i], x.say(kinds[i], counts[i]), i + 1);
        }
        for (int i = kinds.length; i < 40; i++) {
            Check.due("33: say " + i, x.say('n', 0), i + 1);
        }
    }

    private static void sayRefuses() {
        Check.refused("33: say u -1", SOME, OUT_OF_RANGE, x -> x.say('u', -1));
        Check.refused("33: say u 16", SOME, OUT_OF_RANGE, x -> x.say('u', 16));
        Check.refused("33: say d -1", SOME, OUT_OF_RANGE, x -> x.say('d', -1));
        Check.refused("33: say d 16", SOME, OUT_OF_RANGE, x -> x.say('d', 16));
        Check.refused("33: say x -41", SOME, OUT_OF_RANGE, x -> x.say('x', -41));
        Check.refused("33: say x 41", SOME, OUT_OF_RANGE, x -> x.say('x', 41));
        Check.refused("33: say x least int", SOME, OUT_OF_RANGE, x -> x.say('x', Integer.MIN_VALUE));
        Check.refused("33: say n 1", SOME, OUT_OF_RANGE, x -> x.say('n', 1));
        Check.refused("33: say n -1", SOME, OUT_OF_RANGE, x -> x.say('n', -1));
        for (char kind : new char[] {'U', 'a', 't', 'v', 'c', 'e', 'w', 'y', 'm', 'o', 0, ' ', 0xFFFF}) {
            Check.refused("33: say " + (int) kind, SOME, OUT_OF_RANGE, x -> x.say(kind, 0));
        }
        Check.refused("33: the word 41", WordsTest::full, FULL, x -> x.say('u', 1));
        Check.refused("33: the word 41 again", WordsTest::full, FULL, x -> x.say('n', 0));
        Check.refused("33: no word, and full", WordsTest::full, OUT_OF_RANGE, x -> x.say('u', 16));
        Check.refused("33: no kind, and full", WordsTest::full, OUT_OF_RANGE, x -> x.say('a', 0));
    }

    private static void hush() {
        Doubleline x = full();
        long checksum = Check.with(1.5).checksum();
        Check.due("34: hush() of a full row", x.hush(), 40);
        Check.due("34: hush() of none", x.hush(), 0);
        Check.due("34: checksum after it", x.checksum(), checksum);
        Check.due("34: say after it", x.say('u', 2), 1);
        x.play(0, 1);
        Check.due("34: just the new word is played", x.bits(1), Double.doubleToRawLongBits(1.5) + 2);
        x.playBack(0, 1);
        Check.due("34: just the new word is played back", x.bits(1), Double.doubleToRawLongBits(1.5) - 2);
        x.end(0, true);
        Check.due("34: just the new word loses something", x.losses(0), 1);
        x.set(0, 3, 0);
        Check.due("34: just the new word, far below", x.losses(0), 0);
        Check.due("34: just the new word leads home", x.isHome(0), true);
    }

    private static void rows() {
        for (String row : ROWS) {
            Model model = new Model();
            for (String word : row.isEmpty() ? new String[0] : row.split(" ")) {
                model.kinds.add(word.charAt(0));
                model.counts.add(Integer.parseInt(word.substring(1)));
            }
            for (double number : NUMBERS) {
                Doubleline x = saying(Check.with(number), row);
                String at = " (" + row + ") on " + number;
                double played = model.played(number);
                double back = model.playedBack(number);
                boolean isHome = Model.same(model.playedBack(played), number);
                Check.due("37: isHome" + at, x.isHome(0), isHome);
                Check.due("38: losses" + at, x.losses(0), model.losses(number));
                Check.due("37: the number stays", x.bits(0), Double.doubleToRawLongBits(number));
                Check.due("35: play" + at, x.play(0, 1), Model.place(played));
                Check.due("35: bits(1)" + at, x.bits(1), Double.doubleToRawLongBits(played));
                Check.due("36: playBack" + at, x.playBack(0, 2), Model.place(back));
                Check.due("36: bits(2)" + at, x.bits(2), Double.doubleToRawLongBits(back));
                Check.due("35: the number stays", x.bits(0), Double.doubleToRawLongBits(number));
            }
        }
    }

    private static void roundZero() {
        Doubleline x = saying(Check.with(-0.0, 0.0), "u1");
        Check.due("38: losses at -0, for it comes back as 0", x.losses(0), 1);
        Check.due("37: isHome at -0", x.isHome(0), false);
        Check.due("38: losses at 0", x.losses(1), 0);
        Check.due("37: isHome at 0", x.isHome(1), true);
        x = saying(Check.with(-0.0), "");
        x.play(0, 1);
        Check.due("35: no word leaves -0", x.bits(1), Long.MIN_VALUE);
        Check.due("37: isHome with no word", x.isHome(0), true);
        x = saying(Check.with(-3 * Double.MIN_VALUE), "u3 x-1 n0");
        x.play(0, 0);
        Check.due("35: in the row's order: -0, -0, 0", x.bits(0), 0);
        x = saying(Check.with(1.0), "x1 u1");
        x.playBack(0, 0);
        Check.due("36: from the last word on", x.bits(0), Double.doubleToRawLongBits(Math.nextDown(1.0) / 2));
    }

    private static void noSuchSlot() {
        for (int bad : new int[] {-1, 8, Integer.MIN_VALUE, Integer.MAX_VALUE}) {
            Check.refused("35: play(" + bad + ", 0)", SOME, NO_SLOT, x -> x.play(bad, 0));
            Check.refused("35: play(0, " + bad + ")", SOME, NO_SLOT, x -> x.play(0, bad));
            Check.refused("36: playBack(" + bad + ", 0)", SOME, NO_SLOT, x -> x.playBack(bad, 0));
            Check.refused("36: playBack(0, " + bad + ")", SOME, NO_SLOT, x -> x.playBack(0, bad));
            Check.refused("37: isHome(" + bad + ")", SOME, NO_SLOT, x -> x.isHome(bad));
            Check.refused("38: losses(" + bad + ")", SOME, NO_SLOT, x -> x.losses(bad));
        }
    }
}
