import java.lang.reflect.Field;
import java.lang.reflect.Method;

/**
 * Promise 17: "the bureau, which looks at each one as it does it, would tell 0". As a sound program
 * never comes to that, each test here breaks an object inside, so that an event goes wrong.
 */
public final class CheckTest {
    private static int wrong = 0;

    private static void due(String what, long got, long want) {
        if (got != want) {
            wrong++;
            System.out.println(what + ": " + got + ", due is " + want);
        }
    }

    private static Object inside(Object object, String name) throws ReflectiveOperationException {
        Field field = object.getClass().getDeclaredField(name);
        field.setAccessible(true);
        return field.get(object);
    }

    private static void replace(Object object, String name, Object value) throws ReflectiveOperationException {
        Field field = object.getClass().getDeclaredField(name);
        field.setAccessible(true);
        field.set(object, value);
    }

    /** An index of level 10, of three shares. */
    private static IndexBureau ofThree() {
        IndexBureau x = new IndexBureau();
        x.set(0, 0, 60);
        x.set(1, 0, 30);
        x.set(2, 0, 10);
        x.base(7, 10);
        return x;
    }

    private static void closeWith(IndexBureau x, int kind, int share, int a) {
        x.event(kind, share, a, 0, 0);
        due("close", x.close(), 1);
    }

    /** The new divisor is written over the old one: so no level is that of before. */
    private static void breakDivisors(IndexBureau x) throws ReflectiveOperationException {
        replace(x, "nextDivisor", inside(x, "divisor"));
    }

    /** What is below a factor is written over what is above it: so each factor is 1. */
    private static void breakFactors(IndexBureau x) throws ReflectiveOperationException {
        Object shares = inside(x, "shares");
        replace(shares, "factorDown", inside(shares, "factorUp"));
    }

    private static void levelsThatDoNotStay() throws ReflectiveOperationException {
        int[][] events = {{2, 0, 7}, {4, 0, 0}, {5, 7, 0}, {6, 1, 2}, {7, 1, 2}, {8, 0, 50}};
        for (int[] e : events) {
            IndexBureau x = ofThree();
            breakDivisors(x);
            due("before the event", x.check(), 1);
            closeWith(x, e[0], e[1], e[2]);
            due("behind an event of kind " + e[0], x.check(), 0);
        }
    }

    private static void levelsThatNearlyStay() throws ReflectiveOperationException {
        IndexBureau x = new IndexBureau();
        x.set(0, 0, 9999999);
        x.set(0, 1, 9999999);
        x.set(0, 2, 100);
        x.base(3, 10);
        breakDivisors(x);
        closeWith(x, 6, 1, 2);
        due("behind a count of 2 beside a great worth", x.check(), 0);
    }

    private static void ordinaryDividendsAreNotLookedAt() throws ReflectiveOperationException {
        IndexBureau x = ofThree();
        breakDivisors(x);
        closeWith(x, 3, 0, 7);
        due("behind an ordinary dividend", x.check(), 1);
    }

    private static void onlySinceBase() throws ReflectiveOperationException {
        IndexBureau x = ofThree();
        breakDivisors(x);
        closeWith(x, 2, 0, 7);
        due("behind a wrong event", x.check(), 0);
        closeWith(x, 3, 0, 7);
        due("behind a right event more", x.check(), 0);
        x.base(7, 10);
        due("behind base", x.check(), 1);
    }

    private static void capsThatAreNotKept() throws ReflectiveOperationException {
        for (int large = 0; large < 3; large++) {
            IndexBureau x = ofThree();
            breakFactors(x);
            x.set(0, 0, 10);
            x.set(1, 0, 10);
            x.set(large, 0, 60);
            closeWith(x, 8, 0, 75);
            due("behind a cap that nobody is above", x.check(), 1);
            closeWith(x, 8, 0, 74);
            due("behind a cap that is not kept", x.check(), 0);
        }
    }

    private static boolean isCapped(IndexBureau x, int inHundred) throws ReflectiveOperationException {
        // weight() leaves the worth of all members where isCapped() looks for it.
        x.weight(0);
        Method method = IndexBureau.class.getDeclaredMethod("isCapped", int.class);
        method.setAccessible(true);
        return (boolean) method.invoke(x, inHundred);
    }

    private static void worthJustTheCapAndNotMore() throws ReflectiveOperationException {
        IndexBureau x = ofThree();
        due("60 of 100 are not more than 60", isCapped(x, 60) ? 1 : 0, 1);
        due("60 of 100 are more than 59", isCapped(x, 59) ? 1 : 0, 0);
        closeWith(x, 8, 0, 50);
        due("a large one is worth just 50", isCapped(x, 50) ? 1 : 0, 1);
        due("a large one is worth more than 49", isCapped(x, 49) ? 1 : 0, 0);
        due("a large one is not worth just 51", isCapped(x, 51) ? 1 : 0, 0);
    }

    public static void main(String[] args) throws ReflectiveOperationException {
        levelsThatDoNotStay();
        levelsThatNearlyStay();
        ordinaryDividendsAreNotLookedAt();
        onlySinceBase();
        capsThatAreNotKept();
        worthJustTheCapAndNotMore();
        System.out.println(wrong == 0 ? "check() tells what it should" : wrong + " answers are not as due");
        if (wrong != 0) {
            System.exit(1);
        }
    }
}
