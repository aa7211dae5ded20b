import java.lang.reflect.Constructor;
import java.lang.reflect.Field;
import java.lang.reflect.Member;
import java.lang.reflect.Method;
import java.lang.reflect.Modifier;
import java.util.Arrays;
import java.util.TreeSet;

/** The public face, as the document writes it, and nothing else that is not private. */
public final class FaceTest {
    private static final String SLOT = " throws IndexOutOfBoundsException";
    private static final String RANGE = SLOT + ", IllegalArgumentException";
    private static final String LED = SLOT + ", ArithmeticException";
    private static final String[] FACE = {
        "long set(int, int, int)" + RANGE,
        "long end(int, boolean)" + SLOT,
        "long copy(int, int)" + SLOT,
        "long negate(int, int)" + SLOT,
        "long place(int)" + SLOT,
        "long bits(int)" + SLOT,
        "boolean isEndless(int)" + SLOT,
        "boolean isWhole(int)" + SLOT,
        "boolean isSmall(int)" + SLOT,
        "int up(int, int)" + RANGE,
        "int down(int, int)" + RANGE,
        "int toward(int, int, int)" + RANGE,
        "int walk(int, int)" + SLOT,
        "long apart(int, int)" + SLOT,
        "boolean areNext(int, int)" + SLOT,
        "long middle(int, int, int)" + SLOT,
        "int halvings(int, int)" + SLOT,
        "int compare(int, int)" + SLOT,
        "int least()",
        "int rank(int)" + SLOT,
        "long scale(int, int, int)" + RANGE,
        "boolean isKept(int, int)" + RANGE,
        "boolean isOne(int, int, int)" + RANGE,
        "int exponent(int)" + SLOT,
        "long unit(int, int)" + SLOT,
        "int lead(int)" + LED,
        "int tail(int)" + LED,
        "long power(int, int)" + LED,
        "int grains(int, int)" + RANGE + ", IllegalStateException",
        "int gap(int, int, int)" + RANGE + ", IllegalStateException",
        "int compareGaps(int, int, int, int)" + SLOT + ", IllegalStateException",
        "int say(char, int) throws IllegalArgumentException, IllegalStateException",
        "int hush()",
        "long play(int, int)" + SLOT,
        "long playBack(int, int)" + SLOT,
        "boolean isHome(int)" + SLOT,
        "int losses(int)" + SLOT,
        "int undo() throws NoSuchElementException",
        "float share()",
        "double meanExponent()",
        "long checksum()",
        "boolean isSound()",
    };

    public static void main(String[] args) {
        TreeSet<String> got = new TreeSet<>();
        for (Method method : Doubleline.class.getDeclaredMethods()) {
            if (isOpen(method)) {
                got.add(written(method));
                Check.due(method + " is public", Modifier.isPublic(method.getModifiers()), true);
            }
        }
        TreeSet<String> want = new TreeSet<>(Arrays.asList(FACE));
        if (!got.equals(want)) {
            Check.report("the face is " + got + ", due is " + want);
        }
        for (Field field : Doubleline.class.getDeclaredFields()) {
            Check.due(field + " is open", isOpen(field), false);
        }
        Constructor<?>[] constructors = Doubleline.class.getDeclaredConstructors();
        Check.due("constructors", constructors.length, 1);
        Check.due("parameters of the constructor", constructors[0].getParameterCount(), 0);
        Check.due("the constructor is public", Modifier.isPublic(constructors[0].getModifiers()), true);
        Check.due("the class is public and final", Doubleline.class.getModifiers(), Modifier.PUBLIC | Modifier.FINAL);
        Check.finish();
    }

    private static boolean isOpen(Member member) {
        return !Modifier.isPrivate(member.getModifiers()) && !member.isSynthetic();
    }

    private static String written(Method method) {
        StringBuilder text = new StringBuilder();
        text.append(method.getReturnType().getSimpleName()).append(' ').append(method.getName());
        text.append('(').append(names(method.getParameterTypes())).append(')');
        if (method.getExceptionTypes().length > 0) {
            text.append(" throws ").append(names(method.getExceptionTypes()));
        }
        return text.toString();
    }

    private static String names(Class<?>[] types) {
        StringBuilder text = new StringBuilder();
        for (Class<?> type : types) {
            text.append(text.length() == 0 ? "" : ", ").append(type.getSimpleName());
        }
        return text.toString();
    }
}
