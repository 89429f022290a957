import java.lang.reflect.Constructor;
import java.lang.reflect.Field;
import java.lang.reflect.Method;
import java.math.BigInteger;
import java.util.Random;

/**
 * The long division inside the program, against BigInteger. A guessed digit is one too great so
 * seldom that no run of calls is likely to meet it: only numbers made for it do.
 */
public final class DivisionTest {
    private static final int BITS = 30;
    private static final int ROUNDS = 200000;
    private static final int HALF = 1 << BITS - 1;
    private static final int[] EDGES = {0, 1, 2 * HALF - 1, 2 * HALF - 2, HALF, HALF - 1, HALF + 1};

    private final Random random = new Random(7);
    private final Class<?> wholeClass = Class.forName("IndexBureau$Whole");
    private final Class<?> deskClass = Class.forName("IndexBureau$Desk");
    private final Object desk = make(deskClass);
    private final Object rest = make(wholeClass);
    private final Object by = make(wholeClass);
    private final Object quotient = field(deskClass, "quotient").get(desk);
    private final Field digits = field(wholeClass, "digits");
    private final Field size = field(wholeClass, "size");
    private final Method divide = method("divide");
    private final Method cancel = method("cancel");

    private DivisionTest() throws ReflectiveOperationException { }

    private static Object make(Class<?> type) throws ReflectiveOperationException {
        Constructor<?> constructor = type.getDeclaredConstructor();
        constructor.setAccessible(true);
        return constructor.newInstance();
    }

    private static Field field(Class<?> type, String name) throws ReflectiveOperationException {
        Field field = type.getDeclaredField(name);
        field.setAccessible(true);
        return field;
    }

    private Method method(String name) throws ReflectiveOperationException {
        Method method = deskClass.getDeclaredMethod(name, wholeClass, wholeClass);
        method.setAccessible(true);
        return method;
    }

    private void put(Object whole, BigInteger value) throws ReflectiveOperationException {
        int[] row = (int[]) digits.get(whole);
        BigInteger left = value;
        int used = 0;
        for (int i = 0; i < row.length; i++) {
            row[i] = left.intValue() & (1 << BITS) - 1;
            left = left.shiftRight(BITS);
            used = row[i] != 0 ? i + 1 : used;
        }
        size.set(whole, used);
    }

    private BigInteger take(Object whole) throws ReflectiveOperationException {
        int[] row = (int[]) digits.get(whole);
        BigInteger value = BigInteger.ZERO;
        for (int i = row.length - 1; i >= 0; i--) {
            value = value.shiftLeft(BITS).add(BigInteger.valueOf(row[i]));
        }
        return value;
    }

    /** Digits that are often the greatest, the least, or near to half: where guesses go wrong. */
    private BigInteger draw(int most) {
        BigInteger value = BigInteger.ZERO;
        int count = 1 + random.nextInt(most);
        for (int i = 0; i < count; i++) {
            int digit = random.nextInt(4) == 0 ? random.nextInt(1 << BITS) : EDGES[random.nextInt(EDGES.length)];
            value = value.shiftLeft(BITS).add(BigInteger.valueOf(digit));
        }
        return value;
    }

    private boolean dividesWell(BigInteger a, BigInteger b) throws ReflectiveOperationException {
        put(rest, a);
        put(by, b);
        divide.invoke(desk, rest, by);
        if (b.signum() == 0) {
            return take(quotient).signum() == 0 && take(rest).equals(a);
        }
        return take(quotient).equals(a.divide(b)) && take(rest).equals(a.mod(b)) && take(by).equals(b);
    }

    private boolean cancelsWell(BigInteger a, BigInteger b) throws ReflectiveOperationException {
        put(rest, a);
        put(by, b);
        cancel.invoke(desk, rest, by);
        BigInteger common = a.gcd(b).max(BigInteger.ONE);
        return take(rest).equals(a.divide(common)) && take(by).equals(b.divide(common));
    }

    private int run() throws ReflectiveOperationException {
        int wrong = 0;
        for (int i = 0; i < ROUNDS && wrong < 20; i++) {
            BigInteger a = draw(46);
            BigInteger b = draw(i % 2 == 0 ? 4 : 24);
            if (!dividesWell(a, b)) {
                wrong++;
                System.out.println(a + " divided by " + b + " is wrong");
            }
            if (i % 50 == 0 && !cancelsWell(a, b)) {
                wrong++;
                System.out.println(a + " and " + b + " are cancelled wrongly");
            }
        }
        return wrong;
    }

    public static void main(String[] args) throws ReflectiveOperationException {
        int wrong = new DivisionTest().run();
        System.out.println(wrong == 0 ? "all divisions are right" : wrong + " divisions are wrong");
        if (wrong != 0) {
            System.exit(1);
        }
    }
}
