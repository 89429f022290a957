import java.lang.annotation.Retention;
import java.lang.annotation.RetentionPolicy;
import java.lang.reflect.InvocationTargetException;
import java.lang.reflect.Method;
import java.math.BigInteger;
import java.util.ArrayList;
import java.util.Arrays;
import java.util.Comparator;
import java.util.List;

/**
 * Each sentence of the document that names a boundary has a test of its own here: Says tells where
 * the sentence stands, and its words. Every test that has a Says is run.
 */
public final class BoundaryTest {
    private static final int NONE = IndexBureau.NONE;

    private static final int PRICE = 0;
    private static final int COUNT = 1;
    private static final int FLOAT = 2;
    private static final int MOST_PRICE = 9999999;
    private static final int MOST_COUNT = 9999999;
    private static final int MOST_FLOAT = 100;

    private static final int SPLIT = 0;
    private static final int RIGHTS = 1;
    private static final int SPECIAL = 2;
    private static final int ORDINARY = 3;
    private static final int LEAVING = 4;
    private static final int JOINING = 5;
    private static final int NEW_COUNT = 6;
    private static final int NEW_FLOAT = 7;
    private static final int CAP = 8;
    private static final int KINDS = 9;

    private static final int DONE = 0;
    private static final int BY_NUMBERS = 1;
    private static final int BY_MEMBERS = 2;
    private static final int TOO_LONG = 3;

    private static final int MIN = Integer.MIN_VALUE;
    private static final int MAX = Integer.MAX_VALUE;
    private static final long MOST_PUBLISHED = 999999999999999999L;

    private static final List<String> FAULTS = new ArrayList<>();

    /** Where in the document a sentence stands, and the words of it that a test is about. */
    @Retention(RetentionPolicy.RUNTIME)
    private @interface Says {
        String where();

        String text();
    }

    /** A call whose exception is looked at. */
    private interface Attempt {
        void make();
    }

    private static void due(String what, long got, long want) {
        if (got != want) {
            FAULTS.add(what + ": " + got + ", due is " + want);
        }
    }

    private static void dueText(String what, String got, String want) {
        if (!got.equals(want)) {
            FAULTS.add(what + ": " + got + ", due is " + want);
        }
    }

    private static void dueThrow(String what, Class<?> type, Attempt attempt) {
        Class<?> got = null;
        try {
            attempt.make();
        } catch (RuntimeException e) {
            got = e.getClass();
        }
        if (got != type) {
            FAULTS.add(what + " threw " + got + ", due is " + type);
        }
    }

    private static void put(Bureau x, int share, int price, int count, int free) {
        due("set price", x.set(share, PRICE, price), 0);
        due("set count", x.set(share, COUNT, count), 0);
        due("set float", x.set(share, FLOAT, free), 0);
    }

    private static void dueShare(Bureau x, int share, int price, int count, int free) {
        due("price of " + share, x.get(share, PRICE), price);
        due("count of " + share, x.get(share, COUNT), count);
        due("float of " + share, x.get(share, FLOAT), free);
    }

    /** An index of level 10, of shares 0, 1, .. that are worth these many. */
    private static Bureau of(int... worths) {
        Bureau x = new Bureau();
        for (int s = 0; s < worths.length; s++) {
            due("set price", x.set(s, PRICE, worths[s]), 0);
        }
        x.base((1 << worths.length) - 1, 10);
        return x;
    }

    /** An index of level 10, of share 0 alone; share 7 is like it, but no member. */
    private static Bureau ofOne(int price, int count) {
        Bureau x = new Bureau();
        put(x, 0, price, count, 1);
        put(x, 7, price, count, 1);
        x.base(1, 10);
        return x;
    }

    /** Share 0 was capped, has the factor 2/3, and has left; shares 1 and 2 are members. */
    private static Bureau ofOneLeft() {
        Bureau x = of(60, 30, 10);
        dueDone(x, CAP, 0, 50, 0, 0);
        dueDone(x, LEAVING, 0, 0, 0, 0);
        dueText("the factor of one that has left", x.factor(0), "2/3");
        return x;
    }

    private static int outcomeOf(Bureau x, int kind, int share, int a, int b, int c) {
        due("event", x.event(kind, share, a, b, c), 1);
        int done = x.close();
        int outcome = x.outcome(0);
        due("close", done, outcome == DONE ? 1 : 0);
        return outcome;
    }

    private static String name(int kind, int share, int a, int b, int c) {
        return "event " + kind + " of share " + share + " with " + a + " " + b + " " + c;
    }

    private static void dueDone(Bureau x, int kind, int share, int a, int b, int c) {
        due(name(kind, share, a, b, c), outcomeOf(x, kind, share, a, b, c), DONE);
    }

    private static void dueRefused(int outcome, Bureau x, int kind, int share, int a, int b, int c) {
        String before = state(x);
        due(name(kind, share, a, b, c), outcomeOf(x, kind, share, a, b, c), outcome);
        dueText("the state behind " + name(kind, share, a, b, c), state(x), before);
    }

    /** All that an event may change. */
    private static String state(Bureau x) {
        StringBuilder text = new StringBuilder();
        text.append(x.members()).append(' ').append(x.divisor());
        for (int s = 0; s < 8; s++) {
            text.append(' ').append(x.get(s, PRICE)).append(',').append(x.get(s, COUNT));
            text.append(',').append(x.get(s, FLOAT)).append(',').append(x.factor(s));
        }
        return text.toString();
    }

    /** Shares 0 and 1 are members, both worth 1; the divisor is 1 over two to the 511th: 512 places. */
    private static Bureau ofLongestBelow() {
        Bureau x = new Bureau();
        x.base(3, 2);
        for (int i = 0; i < 23; i++) {
            halveDivisor(x, 22);
        }
        halveDivisor(x, 5);
        return x;
    }

    /** Both members are worth 1 before and behind it. */
    private static void halveDivisor(Bureau x, int times) {
        int price = (2 << times) - 1;
        x.set(0, PRICE, price);
        x.event(SPECIAL, 0, price - 1, 0, 0);
        due("a close that halves the divisor", x.close(), 1);
    }

    /** Share 0 is the member, worth 1; the divisor is two to the 511th: 512 places. */
    private static Bureau ofLongestAbove() {
        Bureau x = new Bureau();
        x.base(1, 1);
        for (int i = 0; i < 28; i++) {
            doubleDivisor(x, 18);
        }
        doubleDivisor(x, 7);
        return x;
    }

    /** A count goes up with the divisor, then down in splits, which leave the divisor. */
    private static void doubleDivisor(Bureau x, int times) {
        int half = times / 2;
        x.event(NEW_COUNT, 0, 1 << times, 0, 0);
        due("a close that doubles the divisor", x.close(), 1);
        x.event(SPLIT, 0, 1, 1 << half, 0);
        x.event(SPLIT, 0, 1, 1 << times - half, 0);
        due("a close that leaves the divisor", x.close(), 2);
        x.set(0, PRICE, 1);
    }

    private static String twoTo(int power) {
        return BigInteger.TWO.pow(power).toString();
    }

    // ---- What it is, and Terms: the numbers ----

    @Says(where = "What it is", text = "An object is used for at most 512 calls after it has been made")
    private static void all512CallsAreAnswered() {
        Bureau x = new Bureau();
        x.set(0, PRICE, 100);
        x.base(1, 10);
        for (int day = 0; day < 250; day++) {
            due("event", x.event(NEW_COUNT, 0, MOST_COUNT - day, 0, 0), 1);
            due("close", x.close(), 1);
        }
        due("days", x.days(), 250);
        due("published(0)", x.published(0), 1000);
        due("published(249)", x.published(249), 1000);
        due("level", x.level(), 1000);
        due("outcome", x.outcome(0), DONE);
        due("noted", x.noted(0), 0);
        due("count", x.get(0, COUNT), MOST_COUNT - 249);
        due("check", x.check(), 1);
        due("print", x.print(1, 0), "99997500".length());
        due("calls before the last", x.calls(), 511);
        due("the last call", x.character(7), '0');
    }

    @Says(where = "Terms", text = "There are 8 SHARES, numbered from 0")
    private static void eightShares() {
        Bureau x = new Bureau();
        for (int s = 0; s < 8; s++) {
            due("set " + s, x.set(s, PRICE, 10 + s), 0);
        }
        for (int s = 0; s < 8; s++) {
            due("get " + s, x.get(s, PRICE), 10 + s);
        }
        x.base(255, 1);
        dueText("the divisor has the worth of all eight", x.divisor(), "108");
        dueThrow("share 8", IndexOutOfBoundsException.class, () -> x.get(8, PRICE));
        dueThrow("share -1", IndexOutOfBoundsException.class, () -> x.get(-1, PRICE));
    }

    private static void dueBounds(int what, int most) {
        Bureau x = new Bureau();
        due("set to the most", x.set(3, what, most), 0);
        due("get the most", x.get(3, what), most);
        due("set above the most", x.set(3, what, most + 1), NONE);
        due("set to 0", x.set(3, what, 0), NONE);
        due("get what stayed", x.get(3, what), most);
        due("set to 1", x.set(3, what, 1), 0);
        due("get 1", x.get(3, what), 1);
    }

    @Says(where = "Terms", text = "a PRICE, a whole number of cents from 1 to 9999999")
    private static void priceFrom1To9999999() {
        dueBounds(PRICE, MOST_PRICE);
    }

    @Says(where = "Terms", text = "a COUNT from 1 to 9999999")
    private static void countFrom1To9999999() {
        dueBounds(COUNT, MOST_COUNT);
    }

    @Says(where = "Terms", text = "a FLOAT from 1 to 100 (in a hundred)")
    private static void floatFrom1To100() {
        dueBounds(FLOAT, MOST_FLOAT);
    }

    @Says(where = "Terms", text = "a FACTOR, a fraction above 0, at first 1")
    private static void factorAtFirst1() {
        Bureau x = new Bureau();
        x.base(1, 1);
        for (int s = 0; s < 8; s++) {
            dueText("factor of " + s, x.factor(s), "1");
        }
    }

    @Says(where = "Terms", text = "At first all prices, counts and floats are 1.")
    private static void valuesAtFirst1() {
        Bureau x = new Bureau();
        for (int s = 0; s < 8; s++) {
            dueShare(x, s, 1, 1, 1);
        }
    }

    @Says(where = "Terms", text = "A share's WORTH is price times count times float times factor.")
    private static void worthOfTheGreatestAndTheLeast() {
        Bureau x = new Bureau();
        x.base(1, 1);
        dueText("the least worth", x.divisor(), "1");
        for (int s = 0; s < 8; s++) {
            x.base(1 << (s + 1) % 8, 1);
            put(x, s, MOST_PRICE, MOST_COUNT, MOST_FLOAT);
        }
        x.base(1, 1);
        dueText("the greatest worth", x.divisor(), "9999998000000100");
        x.base(255, 1);
        dueText("eight times the greatest worth", x.divisor(), "79999984000000800");
        due("weight", x.weight(7), 125000000);
        dueDone(x, LEAVING, 0, 0, 0, 0);
        put(x, 0, 1, 1, 1);
        dueDone(x, JOINING, 0, 0, 0, 0);
        dueDone(x, CAP, 0, 13, 0, 0);
        dueText("a factor that makes the greatest worth 13/9", x.factor(7), "13/89999982000000900");
        due("weight by that factor", x.weight(7), 130000000);
        due("weight of the least", x.weight(0), 90000000);
        due("check", x.check(), 1);
    }

    @Says(where = "Terms", text = "its LEVEL is the worth of all members together, divided by the divisor")
    private static void levelOfMembersAlone() {
        Bureau x = of(60, 40);
        x.set(2, PRICE, MOST_PRICE);
        dueText("level", x.exactLevel(), "10");
        x.set(1, PRICE, 41);
        dueText("level", x.exactLevel(), "101/10");
    }

    @Says(where = "Terms", text = "the divisor is made so that it has that level")
    private static void basedWithTheLeastAndTheGreatestLevel() {
        Bureau x = new Bureau();
        x.set(0, PRICE, 7);
        x.base(1, 1);
        dueText("divisor", x.divisor(), "7");
        dueText("level", x.exactLevel(), "1");
        x.base(1, 1000000);
        dueText("divisor", x.divisor(), "7/1000000");
        dueText("level", x.exactLevel(), "1000000");
    }

    @Says(where = "Terms", text = "all factors are 1")
    private static void basedWithFactors1() {
        Bureau x = of(60, 30, 10);
        dueDone(x, CAP, 0, 34, 0, 0);
        dueDone(x, LEAVING, 0, 0, 0, 0);
        dueText("the factor of a member", x.factor(1), "17/48");
        dueText("the factor of one that has left", x.factor(0), "17/96");
        x.base(6, 10);
        dueText("the factor of a member", x.factor(1), "1");
        dueText("the factor of one that has left", x.factor(0), "1");
        dueText("divisor", x.divisor(), "4");
    }

    @Says(where = "Terms", text = "it is day 0")
    private static void basedOnDay0() {
        Bureau x = ofOne(100, 1);
        for (int day = 0; day < 250; day++) {
            x.close();
        }
        x.base(1, 20);
        due("days", x.days(), 0);
        due("published(0)", x.published(0), NONE);
        due("published(249)", x.published(249), NONE);
        due("close", x.close(), 0);
        due("days", x.days(), 1);
        due("published(0)", x.published(0), 2000);
        due("published(1)", x.published(1), NONE);
    }

    @Says(where = "Terms", text = "all that was noted is gone")
    private static void basedWithNothingNoted() {
        Bureau x = ofOne(100, 1);
        for (int i = 0; i < 16; i++) {
            due("event", x.event(SPECIAL, 0, 1, 0, 0), i + 1);
        }
        x.base(1, 10);
        due("close", x.close(), 0);
        due("price", x.get(0, PRICE), 100);
        due("outcome", x.outcome(0), NONE);
        for (int i = 0; i < 16; i++) {
            due("event", x.event(SPECIAL, 0, 1, 0, 0), i + 1);
        }
        due("close", x.close(), 16);
    }

    @Says(where = "Terms", text = "PUBLISHED is the level in hundredths, rounded to the nearest (halves up)")
    private static void publishedIsRounded() {
        Bureau x = new Bureau();
        x.set(0, PRICE, 9999800);
        x.base(1, 1);
        x.set(0, PRICE, 9949800);
        due("just below 99 and a half", x.level(), 99);
        x.set(0, PRICE, 9949801);
        due("99 and a half", x.level(), 100);
        x.set(0, PRICE, 9949802);
        due("just above 99 and a half", x.level(), 100);
        x.set(0, PRICE, 49998);
        due("just below a half", x.level(), 0);
        x.set(0, PRICE, 49999);
        due("a half", x.level(), 1);
        due("close", x.close(), 0);
        due("a half, noted", x.published(0), 1);
    }

    /** Specials from each price to 1 make the level greater by these factors; then the last is set. */
    private static Bureau ofLevel(int worth, int level, int... prices) {
        Bureau x = new Bureau();
        x.set(0, PRICE, worth);
        x.base(1, level);
        for (int i = 0; i < prices.length - 1; i++) {
            x.set(0, PRICE, prices[i]);
            dueDone(x, SPECIAL, 0, prices[i] - 1, 0, 0);
        }
        x.set(0, PRICE, prices[prices.length - 1]);
        return x;
    }

    @Says(where = "Terms", text = "10^18 less 1 at most")
    private static void publishedIsBelow10To18() {
        Bureau just = ofLevel(100, 999999, 1001001, 999001);
        dueText("exactly", just.exactLevel(), "999999999999999999/100");
        due("just 10^18 less 1", just.level(), MOST_PUBLISHED);
        just.set(0, PRICE, 999000);
        due("less than that", just.level(), MOST_PUBLISHED - 999999L * 1001001L);
        Bureau above = ofLevel(100, 1000000, 1000000, 1000000);
        dueText("exactly", above.exactLevel(), "10000000000000000");
        due("just 10^18", above.level(), MOST_PUBLISHED);
        above.close();
        due("just 10^18, noted", above.published(1), MOST_PUBLISHED);
        Bureau rounded = ofLevel(900, 7589, 395309, 177127, 16937);
        dueText("exactly", rounded.exactLevel(), "8999999999999999999/900");
        due("10^18 less a ninth", rounded.level(), MOST_PUBLISHED);
        due("what has more than 64 binary digits", ofLongestBelow().level(), MOST_PUBLISHED);
    }

    // ---- Terms: events and their order ----

    @Says(where = "Terms", text = "EVENTS are noted for the close, at most 16.")
    private static void sixteenEvents() {
        Bureau x = ofOne(100, 1);
        for (int i = 0; i < 16; i++) {
            due("event", x.event(SPECIAL, 0, 1, 0, 0), i + 1);
        }
        due("event 17", x.event(SPECIAL, 0, 1, 0, 0), NONE);
        due("price before the close", x.get(0, PRICE), 100);
        due("close", x.close(), 16);
        due("price behind the close", x.get(0, PRICE), 84);
        due("close", x.close(), 0);
        due("price behind the next close", x.get(0, PRICE), 84);
    }

    @Says(where = "Terms", text = "CLOSE does them by their KINDS, the lesser ones first")
    private static void lesserKindsFirst() {
        Bureau x = of(60, 30, 10);
        for (int kind = KINDS - 1; kind >= 0; kind--) {
            x.event(kind, KINDS - 1 - kind < 8 ? KINDS - 1 - kind : 7, 0, 0, 0);
        }
        x.close();
        for (int i = 0; i < KINDS; i++) {
            due("noted", x.noted(i), KINDS - 1 - i);
        }
        Bureau y = ofOne(100, 1);
        y.event(NEW_COUNT, 0, 5, 0, 0);
        y.event(SPLIT, 0, 2, 1, 0);
        due("close", y.close(), 2);
        dueShare(y, 0, 50, 5, 1);
    }

    @Says(where = "Terms", text = "of the same kind by their shares")
    private static void ofTheSameKindByShares() {
        for (int kind = 0; kind < KINDS; kind++) {
            Bureau x = of(60, 30, 10);
            for (int s = 7; s >= 0; s--) {
                x.event(kind, s, 1, 1, 1);
            }
            x.close();
            for (int i = 0; i < 8; i++) {
                due("noted, of kind " + kind, x.noted(i), 7 - i);
            }
        }
    }

    @Says(where = "Terms", text = "then as they were noted")
    private static void ofTheSameShareAsNoted() {
        for (int kind = 0; kind < KINDS; kind++) {
            Bureau x = of(60, 30, 10);
            for (int i = 0; i < 16; i++) {
                x.event(kind, 1, 16 - i, 1, 1);
            }
            x.close();
            for (int i = 0; i < 16; i++) {
                due("noted, of kind " + kind, x.noted(i), i);
            }
        }
    }

    // ---- Terms: what each kind does ----

    private static void dueSplit(int price, int fresh, int old, int newPrice) {
        Bureau x = ofOne(price, old);
        dueDone(x, SPLIT, 0, fresh, old, 0);
        dueShare(x, 0, newPrice, fresh, 1);
    }

    @Says(where = "Terms, kind 0", text = "price times b, divided by a, rounded (halves up)")
    private static void splitRoundsThePrice() {
        dueSplit(7, 3, 1, 2);
        dueSplit(5, 2, 1, 3);
        dueSplit(8, 3, 1, 3);
        dueSplit(1499, 1000, 1, 1);
        dueSplit(1500, 1000, 1, 2);
        dueSplit(1, 2, 3, 2);
    }

    @Says(where = "Terms, kind 0", text = "count times a, divided by b")
    private static void splitOfGreatNumbers() {
        Bureau x = ofOne(MOST_PRICE, MOST_COUNT);
        dueDone(x, SPLIT, 0, 1000, 1000, 0);
        dueShare(x, 0, MOST_PRICE, MOST_COUNT, 1);
        // 4294968 times 1000 is 704 for one who reckons with 32 binary digits.
        dueRefused(BY_NUMBERS, ofOne(500, 4294968), SPLIT, 0, 1000, 1, 0);
        dueRefused(BY_NUMBERS, ofOne(4294968, 1000), SPLIT, 0, 1, 1000, 0);
    }

    @Says(where = "Terms, kind 1", text = "Only if c is below the price")
    private static void rightsBelowThePrice() {
        Bureau below = ofOne(100, 10);
        dueDone(below, RIGHTS, 0, 1, 1, 99);
        dueShare(below, 0, 100, 20, 1);
        dueText("divisor", below.divisor(), "200");
        Bureau at = ofOne(100, 10);
        dueDone(at, RIGHTS, 0, 1, 1, 100);
        dueShare(at, 0, 100, 10, 1);
        dueText("divisor", at.divisor(), "100");
        Bureau above = ofOne(100, 10);
        dueDone(above, RIGHTS, 0, 1, 1, 101);
        dueShare(above, 0, 100, 10, 1);
    }

    private static void dueRights(int price, int fresh, int old, int offer, int newPrice) {
        Bureau x = ofOne(price, old);
        dueDone(x, RIGHTS, 0, fresh, old, offer);
        dueShare(x, 0, newPrice, fresh + old, 1);
    }

    @Says(where = "Terms, kind 1",
            text = "price times b and c times a together, divided by (a + b), rounded (halves up)")
    private static void rightsRoundThePrice() {
        dueRights(100, 2, 1, 99, 99);
        dueRights(100, 1, 1, 99, 100);
        dueRights(100, 1, 2, 99, 100);
        dueRights(2, 1000, 1, 1, 1);
        dueRights(MOST_PRICE, 1000, 1000, MOST_PRICE - 1, MOST_PRICE);
        dueRights(MOST_PRICE, 1000, 1000, 1, 5000000);
    }

    @Says(where = "Terms, kind 1", text = "count times (a + b), divided by b")
    private static void rightsOfGreatNumbers() {
        Bureau x = ofOne(3, 4999999);
        dueDone(x, RIGHTS, 0, 1000, 1000, 1);
        dueShare(x, 0, 2, 9999998, 1);
        // 4290678 times 1001 is 1382 for one who reckons with 32 binary digits.
        dueRefused(BY_NUMBERS, ofOne(3, 4290678), RIGHTS, 0, 1000, 1, 1);
    }

    @Says(where = "Terms, kind 1", text = "Otherwise nothing is done, but it counts as done (whatever the count is")
    private static void rightsNotBelowThePriceCountAsDone() {
        dueRefused(DONE, ofOne(100, 10), RIGHTS, 0, 1, 3, 100);
        dueRefused(DONE, ofOne(100, 10), RIGHTS, 0, 1, 3, 101);
        dueRefused(DONE, ofOne(100, MOST_COUNT), RIGHTS, 0, 1000, 1, 100);
        dueRefused(DONE, ofOne(100, MOST_COUNT), RIGHTS, 7, 1000, 1, 100);
        Bureau x = ofOne(100, 10);
        x.event(RIGHTS, 0, 1, 3, MOST_PRICE);
        x.event(RIGHTS, 0, 1, 3, 100);
        due("close", x.close(), 2);
        due("check", x.check(), 1);
    }

    @Says(where = "Terms, kind 1", text = "a, b and c within their bounds")
    private static void rightsNotBelowThePriceWithinBounds() {
        dueRefused(DONE, ofOne(100, 10), RIGHTS, 0, 1000, 1000, MOST_PRICE);
        dueRefused(BY_NUMBERS, ofOne(100, 10), RIGHTS, 0, 0, 1, 100);
        dueRefused(BY_NUMBERS, ofOne(100, 10), RIGHTS, 0, 1001, 1, 100);
        dueRefused(BY_NUMBERS, ofOne(100, 10), RIGHTS, 0, 1, 0, 100);
        dueRefused(BY_NUMBERS, ofOne(100, 10), RIGHTS, 0, 1, 1001, 100);
        dueRefused(BY_NUMBERS, ofOne(100, 10), RIGHTS, 0, 1, 1, MOST_PRICE + 1);
    }

    private static void dueDividend(int kind) {
        Bureau x = ofOne(MOST_PRICE, 10);
        dueDone(x, kind, 0, 1, 0, 0);
        due("price less by 1", x.get(0, PRICE), MOST_PRICE - 1);
        dueDone(x, kind, 0, MOST_PRICE - 2, 0, 0);
        due("price less by all but 1", x.get(0, PRICE), 1);
        dueRefused(BY_NUMBERS, ofOne(100, 10), kind, 0, 100, 0, 0);
        dueRefused(BY_NUMBERS, ofOne(100, 10), kind, 0, 101, 0, 0);
        dueRefused(BY_NUMBERS, ofOne(100, 10), kind, 0, MAX, 0, 0);
    }

    @Says(where = "Terms, kind 2", text = "SPECIAL dividend: the price is less by a.")
    private static void specialDividend() {
        dueDividend(SPECIAL);
    }

    @Says(where = "Terms, kind 3", text = "ORDINARY dividend: the price is less by a")
    private static void ordinaryDividend() {
        dueDividend(ORDINARY);
    }

    @Says(where = "Terms, kind 3", text = "the divisor stays")
    private static void ordinaryLeavesTheDivisor() {
        Bureau x = ofOne(100, 10);
        dueDone(x, ORDINARY, 0, 99, 0, 0);
        dueText("divisor", x.divisor(), "100");
        dueText("level", x.exactLevel(), "1/10");
        Bureau full = ofLongestBelow();
        full.set(0, PRICE, 4);
        dueDone(full, ORDINARY, 0, 1, 0, 0);
        due("price", full.get(0, PRICE), 3);
        due("places", full.places(1), 512);
    }

    @Says(where = "Terms, kind 4", text = "the share is no member any more (its factor stays till it joins)")
    private static void leavingKeepsTheFactor() {
        Bureau x = ofOneLeft();
        due("members", x.members(), 6);
        due("weight", x.weight(0), NONE);
        dueDone(x, NEW_COUNT, 0, 7, 0, 0);
        dueDone(x, SPECIAL, 1, 1, 0, 0);
        x.set(0, PRICE, 5);
        dueText("the factor of one that has left", x.factor(0), "2/3");
        due("a leaving that is refused", outcomeOf(x, LEAVING, 0, 0, 0, 0), BY_MEMBERS);
        dueText("the factor of one that has left", x.factor(0), "2/3");
    }

    @Says(where = "Terms, kind 5", text = "it is one, with the factor 1")
    private static void joiningSetsTheFactor() {
        Bureau x = ofOneLeft();
        dueDone(x, JOINING, 0, 0, 0, 0);
        due("members", x.members(), 7);
        dueText("factor", x.factor(0), "1");
        dueText("divisor", x.divisor(), "10");
        Bureau y = of(60, 30, 10);
        dueDone(y, CAP, 0, 50, 0, 0);
        y.event(JOINING, 0, 0, 0, 0);
        y.event(LEAVING, 0, 0, 0, 0);
        due("leaves and joins at one close", y.close(), 2);
        dueText("factor", y.factor(0), "1");
        due("members", y.members(), 7);
    }

    private static void dueReplaced(int kind, int what, int most) {
        Bureau x = ofOne(100, 2);
        dueDone(x, kind, 0, most, 0, 0);
        due("the most", x.get(0, what), most);
        dueDone(x, kind, 0, 1, 0, 0);
        due("the least", x.get(0, what), 1);
        dueRefused(BY_NUMBERS, ofOne(100, 2), kind, 0, most + 1, 0, 0);
        dueRefused(BY_NUMBERS, ofOne(100, 2), kind, 0, 0, 0, 0);
        dueRefused(BY_NUMBERS, ofOne(100, 2), kind, 7, most + 1, 0, 0);
        dueRefused(BY_NUMBERS, ofOne(100, 2), kind, 7, 0, 0, 0);
        dueRefused(BY_NUMBERS, ofOne(100, 2), kind, 0, MIN, 0, 0);
    }

    @Says(where = "Terms, kind 6", text = "COUNT: it becomes a.")
    private static void countBecomes() {
        dueReplaced(NEW_COUNT, COUNT, MOST_COUNT);
    }

    @Says(where = "Terms, kind 7", text = "FLOAT: it becomes a.")
    private static void floatBecomes() {
        dueReplaced(NEW_FLOAT, FLOAT, MOST_FLOAT);
    }

    @Says(where = "Terms, kind 8", text = "CAP (its share, one that there is, tells its order alone)")
    private static void shareOfACap() {
        String want = null;
        for (int share = 0; share < 8; share++) {
            Bureau x = of(60, 30, 10);
            dueDone(x, CAP, share, 50, 0, 0);
            want = want == null ? state(x) : want;
            dueText("the state behind a cap of share " + share, state(x), want);
        }
        Bureau twice = of(60, 30, 10);
        twice.event(CAP, 7, 50, 0, 0);
        twice.event(CAP, 6, 34, 0, 0);
        due("a cap of no share", twice.event(CAP, 8, 34, 0, 0), NONE);
        due("a cap of no share", twice.event(CAP, -1, 34, 0, 0), NONE);
        due("close", twice.close(), 2);
        due("the cap of share 6 is the first", twice.noted(0), 1);
        dueText("the cap of share 7 is the last", twice.factor(0), "2/3");
    }

    @Says(where = "Terms, kind 8", text = "no member is to be worth more than a in a hundred of all")
    private static void worthJustTheCap() {
        Bureau just = of(5000000, 3000000, 2000000);
        dueDone(just, CAP, 0, 50, 0, 0);
        dueText("worth just the cap", just.factor(0), "1");
        dueText("divisor", just.divisor(), "1000000");
        Bureau more = of(5000001, 3000000, 2000000);
        dueDone(more, CAP, 0, 50, 0, 0);
        dueText("worth a little more", more.factor(0), "5000000/5000001");
        due("weight", more.weight(0), 500000000);
        Bureau equal = of(7, 7, 7, 7);
        dueDone(equal, CAP, 0, 25, 0, 0);
        dueText("all are worth just the cap", equal.factor(0) + equal.factor(3), "11");
        Bureau one = of(7);
        dueDone(one, CAP, 0, 100, 0, 0);
        dueText("the only one is worth just the cap", one.factor(0), "1");
    }

    @Says(where = "Terms, kind 8", text = "all factors become 1")
    private static void capSetsAllFactors() {
        Bureau x = of(60, 30, 10);
        dueDone(x, CAP, 0, 34, 0, 0);
        dueText("factor", x.factor(1), "17/48");
        dueDone(x, CAP, 0, 60, 0, 0);
        dueText("factors behind a cap that nobody is above", x.factor(0) + x.factor(1), "11");
        dueText("divisor", x.divisor(), "10");
        Bureau left = ofOneLeft();
        dueDone(left, CAP, 1, 100, 0, 0);
        dueText("the factor of one that has left", left.factor(0), "1");
    }

    @Says(where = "Terms, kind 8",
            text = "while some other member is worth more than a in a hundred of all, if each large one is "
                    + "worth just a in a hundred, they become large, too")
    private static void othersBecomeLarge() {
        Bureau just = of(70, 20, 10);
        dueDone(just, CAP, 0, 40, 0, 0);
        dueText("the large one", just.factor(0), "2/7");
        dueText("one that is then worth just the cap", just.factor(1), "1");
        Bureau more = of(70, 21, 10);
        dueDone(more, CAP, 0, 40, 0, 0);
        dueText("the first large one", more.factor(0), "2/7");
        dueText("one that is then worth a little more", more.factor(1), "20/21");
        Bureau last = of(60, 40);
        dueDone(last, CAP, 0, 50, 0, 0);
        dueText("the large one", last.factor(0), "2/3");
        dueText("the last one, then worth just the cap", last.factor(1), "1");
        Bureau thrice = of(10, 31, 40, 60);
        dueDone(thrice, CAP, 0, 30, 0, 0);
        dueText("large at first", thrice.factor(3), "1/2");
        dueText("large then", thrice.factor(2), "3/4");
        dueText("large at last", thrice.factor(1), "30/31");
        dueText("never large", thrice.factor(0), "1");
    }

    @Says(where = "Terms, kind 8", text = "then LARGE members are found: while some other member is worth more")
    private static void asManyRoundsAsThereCanBe() {
        Bureau x = of(2604, 624, 328, 276, 265, 262, 261, 180);
        dueDone(x, CAP, 0, 13, 0, 0);
        String[] factors = {"65/651", "5/12", "65/82", "65/69", "52/53", "130/131", "260/261", "1"};
        for (int s = 0; s < 8; s++) {
            dueText("factor of " + s, x.factor(s), factors[s]);
            due("weight of " + s, x.weight(s), s < 7 ? 130000000 : 90000000);
        }
    }

    @Says(where = "Terms, kind 8",
            text = "at last each large one's factor is such that it is worth just a in a hundred of all, of others 1")
    private static void factorsOfACap() {
        Bureau x = of(50, 36, 8, 6);
        dueDone(x, CAP, 0, 25, 0, 0);
        for (int s = 0; s < 4; s++) {
            due("weight under the least cap", x.weight(s), 250000000);
        }
        dueText("the least one", x.factor(3), "1");
        dueText("the greatest one", x.factor(0), "3/25");
        dueText("level", x.exactLevel(), "10");
        due("check", x.check(), 1);
    }

    // ---- Terms: outcomes ----

    @Says(where = "Terms, outcome 1", text = "a count that is not whole")
    private static void countThatIsNotWhole() {
        dueRefused(BY_NUMBERS, ofOne(100, 10), SPLIT, 0, 1, 3, 0);
        dueRefused(BY_NUMBERS, ofOne(100, 1), SPLIT, 0, 999, 1000, 0);
        dueRefused(BY_NUMBERS, ofOne(100, 10), SPLIT, 7, 1, 3, 0);
        dueRefused(BY_NUMBERS, ofOne(100, 10), RIGHTS, 0, 1, 3, 99);
        dueRefused(BY_NUMBERS, ofOne(100, 10), RIGHTS, 7, 1, 3, 99);
        dueDone(ofOne(100, 9), SPLIT, 0, 1, 3, 0);
        dueDone(ofOne(100, 9), RIGHTS, 0, 1, 3, 99);
    }

    @Says(where = "Terms, outcome 1", text = "a count or price out of its bounds")
    private static void countOutOfItsBounds() {
        dueDone(ofOne(100, 3333333), SPLIT, 0, 3, 1, 0);
        dueRefused(BY_NUMBERS, ofOne(100, 5000000), SPLIT, 0, 2, 1, 0);
        dueDone(ofOne(100, 3333333), RIGHTS, 0, 2, 1, 99);
        dueRefused(BY_NUMBERS, ofOne(100, 5000000), RIGHTS, 0, 1, 1, 99);
        dueDone(ofOne(100, 1), NEW_COUNT, 0, MOST_COUNT, 0, 0);
        for (int bad : new int[] {0, -1, MOST_COUNT + 1, MIN, MAX}) {
            dueRefused(BY_NUMBERS, ofOne(100, 1), NEW_COUNT, 0, bad, 0, 0);
        }
    }

    @Says(where = "Terms, outcome 1", text = "a count or price out of its bounds")
    private static void priceOutOfItsBounds() {
        dueSplit(1, 2, 1, 1);
        dueRefused(BY_NUMBERS, ofOne(1, 1), SPLIT, 0, 3, 1, 0);
        dueSplit(500, 1000, 1, 1);
        dueRefused(BY_NUMBERS, ofOne(499, 1), SPLIT, 0, 1000, 1, 0);
        dueSplit(3333333, 1, 3, MOST_PRICE);
        dueRefused(BY_NUMBERS, ofOne(5000000, 2), SPLIT, 0, 1, 2, 0);
        // 9999999 and a third; 9999999 and six tenths, which is rounded out of the bounds.
        dueSplit(4285714, 3, 7, MOST_PRICE);
        dueRefused(BY_NUMBERS, ofOne(8333333, 6), SPLIT, 0, 5, 6, 0);
        for (int kind : new int[] {SPECIAL, ORDINARY}) {
            dueDone(ofOne(2, 1), kind, 0, 1, 0, 0);
            dueRefused(BY_NUMBERS, ofOne(1, 1), kind, 0, 1, 0, 0);
        }
    }

    @Says(where = "Terms, outcome 1", text = "a or b, or the new float, out of theirs")
    private static void newFloatOutOfItsBounds() {
        dueDone(ofOne(100, 1), NEW_FLOAT, 0, MOST_FLOAT, 0, 0);
        dueDone(ofOne(100, 1), NEW_FLOAT, 0, 1, 0, 0);
        for (int bad : new int[] {0, -1, MOST_FLOAT + 1, MIN, MAX}) {
            dueRefused(BY_NUMBERS, ofOne(100, 1), NEW_FLOAT, 0, bad, 0, 0);
        }
    }

    @Says(where = "Terms, outcome 1", text = "a and b of 0 and 1 are from 1 to 1000")
    private static void ratiosFrom1To1000() {
        for (int kind : new int[] {SPLIT, RIGHTS}) {
            dueDone(ofOne(1000, 1000), kind, 0, 1, 1, 1);
            dueDone(ofOne(1000, 1000), kind, 0, 1000, 1, 1);
            dueDone(ofOne(1000, 1000), kind, 0, 1, 1000, 1);
            dueDone(ofOne(1000, 1000), kind, 0, 1000, 1000, 1);
            for (int bad : new int[] {0, -1, 1001, MIN, MAX}) {
                dueRefused(BY_NUMBERS, ofOne(1001, 1001), kind, 0, bad, 1, 1);
                dueRefused(BY_NUMBERS, ofOne(1001, 1001), kind, 0, 1, bad, 1);
                dueRefused(BY_NUMBERS, ofOne(1001, 1001), kind, 0, bad, bad, 1);
            }
        }
    }

    @Says(where = "Terms, outcome 1", text = "c a price")
    private static void offerThatIsAPrice() {
        dueDone(ofOne(100, 10), RIGHTS, 0, 1, 1, 1);
        dueDone(ofOne(100, 10), RIGHTS, 0, 1, 1, MOST_PRICE);
        for (int bad : new int[] {0, -1, MOST_PRICE + 1, MIN, MAX}) {
            dueRefused(BY_NUMBERS, ofOne(100, 10), RIGHTS, 0, 1, 1, bad);
        }
        dueDone(ofOne(100, 10), SPLIT, 0, 2, 1, 0);
        dueDone(ofOne(100, 10), SPLIT, 0, 2, 1, MIN);
    }

    @Says(where = "Terms, outcome 1", text = "a of 2 and 3 from 1")
    private static void dividendsFrom1() {
        for (int kind : new int[] {SPECIAL, ORDINARY}) {
            dueDone(ofOne(100, 10), kind, 0, 1, 0, 0);
            for (int bad : new int[] {0, -1, MIN}) {
                dueRefused(BY_NUMBERS, ofOne(100, 10), kind, 0, bad, 0, 0);
            }
        }
    }

    @Says(where = "Terms, outcome 2", text = "one leaves that is none")
    private static void noneLeaves() {
        dueRefused(BY_MEMBERS, of(60, 30), LEAVING, 2, 0, 0, 0);
        dueRefused(BY_MEMBERS, ofOneLeft(), LEAVING, 0, 0, 0, 0);
        Bureau x = of(60, 30, 10);
        x.event(LEAVING, 0, 0, 0, 0);
        x.event(LEAVING, 0, 0, 0, 0);
        due("leaves twice at one close", x.close(), 1);
        due("the second time", x.outcome(1), BY_MEMBERS);
        due("members", x.members(), 6);
    }

    @Says(where = "Terms, outcome 2", text = "or the only one")
    private static void theOnlyOneLeaves() {
        dueRefused(BY_MEMBERS, of(60), LEAVING, 0, 0, 0, 0);
        Bureau x = of(60, 30);
        x.event(LEAVING, 1, 0, 0, 0);
        x.event(LEAVING, 0, 0, 0, 0);
        x.event(JOINING, 2, 0, 0, 0);
        due("both leave at one close", x.close(), 2);
        due("the last one", x.outcome(1), BY_MEMBERS);
        due("members", x.members(), 6);
    }

    @Says(where = "Terms, outcome 2", text = "one joins that is one")
    private static void aMemberJoins() {
        Bureau capped = of(60, 30, 10);
        dueDone(capped, CAP, 0, 50, 0, 0);
        dueRefused(BY_MEMBERS, capped, JOINING, 0, 0, 0, 0);
        Bureau x = of(60, 30);
        x.event(JOINING, 2, 0, 0, 0);
        x.event(JOINING, 2, 0, 0, 0);
        due("joins twice at one close", x.close(), 1);
        due("the second time", x.outcome(1), BY_MEMBERS);
        due("members", x.members(), 7);
        dueRefused(BY_MEMBERS, of(1, 2, 3, 4, 5, 6, 7, 8), JOINING, 7, 0, 0, 0);
    }

    private static Bureau ofEqual(int members) {
        int[] worths = new int[members];
        Arrays.fill(worths, 5);
        return of(worths);
    }

    @Says(where = "Terms, outcome 2", text = "a cap times the number of members that is below 100")
    private static void capTimesMembersBelow100() {
        int[] least = {100, 50, 34, 25, 20, 17, 15, 13};
        for (int n = 1; n <= 8; n++) {
            dueRefused(BY_MEMBERS, ofEqual(n), CAP, 0, least[n - 1] - 1, 0, 0);
            dueDone(ofEqual(n), CAP, 0, least[n - 1], 0, 0);
        }
        Bureau leaves = ofEqual(4);
        leaves.event(CAP, 0, 25, 0, 0);
        leaves.event(LEAVING, 0, 0, 0, 0);
        due("one leaves before the cap", leaves.close(), 1);
        due("a cap for one more", leaves.outcome(1), BY_MEMBERS);
        Bureau joins = ofEqual(3);
        joins.event(CAP, 0, 25, 0, 0);
        joins.event(JOINING, 3, 0, 0, 0);
        due("one joins before the cap", joins.close(), 2);
    }

    @Says(where = "Terms, outcome 2", text = "or a not 1 to 100")
    private static void capNot1To100() {
        dueDone(ofEqual(8), CAP, 0, 100, 0, 0);
        for (int bad : new int[] {101, 0, -1, -100, MIN, MAX}) {
            dueRefused(BY_MEMBERS, ofEqual(8), CAP, 0, bad, 0, 0);
            dueRefused(BY_MEMBERS, ofEqual(1), CAP, 0, bad, 0, 0);
        }
        // Eight times this is 104 for one who reckons with 32 binary digits.
        dueRefused(BY_MEMBERS, ofEqual(8), CAP, 0, (1 << 29) + 13, 0, 0);
        dueRefused(BY_MEMBERS, ofEqual(8), CAP, 0, (1 << 31) + 13, 0, 0);
    }

    @Says(where = "Terms, outcome 3", text = "the divisor would have more than 512 binary digits above")
    private static void divisorTooLongAbove() {
        Bureau x = ofLongestAbove();
        due("places above", x.places(0), 512);
        due("places below", x.places(1), 1);
        due("twice the divisor", outcomeOf(x, NEW_COUNT, 0, 2, 0, 0), TOO_LONG);
        due("count", x.get(0, COUNT), 1);
        dueText("divisor", x.divisor(), twoTo(511));
        x.set(0, PRICE, 2);
        due("half as much again", outcomeOf(x, NEW_FLOAT, 0, 3, 0, 0), TOO_LONG);
        dueDone(x, SPECIAL, 0, 1, 0, 0);
        due("half the divisor", x.places(0), 511);
        dueDone(x, NEW_COUNT, 0, 3, 0, 0);
        due("three times that", x.places(0), 512);
    }

    @Says(where = "Terms, outcome 3", text = "more than 512 binary digits above or below")
    private static void divisorTooLongBelow() {
        Bureau x = ofLongestBelow();
        due("places above", x.places(0), 1);
        due("places below", x.places(1), 512);
        x.set(0, PRICE, 3);
        due("half the divisor", outcomeOf(x, SPECIAL, 0, 2, 0, 0), TOO_LONG);
        due("price", x.get(0, PRICE), 3);
        dueText("divisor", x.divisor(), "1/" + twoTo(511));
        x.set(1, PRICE, 2);
        dueDone(x, CAP, 0, 50, 0, 0);
        due("four fifths of the divisor", x.places(1), 512);
    }

    @Says(where = "Terms, outcomes", text = "An event's OUTCOME, 1 and 2 before 3")
    private static void oneAndTwoBeforeThree() {
        Bureau x = ofLongestBelow();
        x.set(0, PRICE, 3);
        x.set(1, PRICE, 2);
        due("3", outcomeOf(x, SPECIAL, 0, 2, 0, 0), TOO_LONG);
        due("1 before 3", outcomeOf(x, SPECIAL, 0, 3, 0, 0), BY_NUMBERS);
        due("1 before 3", outcomeOf(x, NEW_COUNT, 0, MOST_COUNT + 1, 0, 0), BY_NUMBERS);
        due("1 before 3", outcomeOf(x, NEW_FLOAT, 0, MOST_FLOAT + 1, 0, 0), BY_NUMBERS);
        due("1 before 3", outcomeOf(x, SPLIT, 0, 1, 2, 0), BY_NUMBERS);
        due("1 before 3", outcomeOf(x, RIGHTS, 0, 1, 2, 1), BY_NUMBERS);
        due("2 before 3", outcomeOf(x, JOINING, 0, 0, 0, 0), BY_MEMBERS);
        due("2 before 3", outcomeOf(x, LEAVING, 2, 0, 0, 0), BY_MEMBERS);
        due("2 before 3", outcomeOf(x, CAP, 0, 49, 0, 0), BY_MEMBERS);
    }

    private static Bureau ofLongestBelow(int price0, int price1) {
        Bureau x = ofLongestBelow();
        x.set(0, PRICE, price0);
        x.set(1, PRICE, price1);
        return x;
    }

    @Says(where = "Terms, outcomes", text = "If it is not 0, nothing is done for it.")
    private static void nothingIsDoneForWhatIsTooLong() {
        dueRefused(TOO_LONG, ofLongestBelow(3, 2), SPLIT, 0, 2, 1, 0);
        dueRefused(TOO_LONG, ofLongestBelow(3, 2), RIGHTS, 0, 1, 1, 1);
        dueRefused(TOO_LONG, ofLongestBelow(3, 2), SPECIAL, 0, 2, 0, 0);
        dueRefused(TOO_LONG, ofLongestBelow(3, 2), LEAVING, 1, 0, 0, 0);
        dueRefused(TOO_LONG, ofLongestBelow(3, 2), JOINING, 2, 0, 0, 0);
        dueRefused(TOO_LONG, ofLongestBelow(3, 2), NEW_COUNT, 1, 2, 0, 0);
        dueRefused(TOO_LONG, ofLongestBelow(3, 2), NEW_FLOAT, 1, 2, 0, 0);
        dueRefused(TOO_LONG, ofLongestBelow(4, 1), CAP, 0, 50, 0, 0);
    }

    @Says(where = "Terms, outcomes", text = "If it is not 0, nothing is done for it.")
    private static void nothingIsDoneForWhatIsRefused() {
        Bureau x = of(60, 30, 10);
        dueDone(x, CAP, 0, 50, 0, 0);
        String before = state(x);
        x.event(CAP, 0, 33, 0, 0);
        x.event(SPLIT, 0, 7, 11, 0);
        x.event(RIGHTS, 1, 7, 11, 29);
        x.event(SPECIAL, 0, 60, 0, 0);
        x.event(ORDINARY, 0, 60, 0, 0);
        x.event(LEAVING, 5, 0, 0, 0);
        x.event(JOINING, 0, 0, 0, 0);
        x.event(NEW_COUNT, 0, 0, 0, 0);
        x.event(NEW_FLOAT, 0, 101, 0, 0);
        due("close", x.close(), 0);
        int[] outcomes = {1, 1, 1, 1, 2, 2, 1, 1, 2};
        for (int i = 0; i < outcomes.length; i++) {
            due("outcome " + i, x.outcome(i), outcomes[i]);
        }
        dueText("state", state(x), before);
        due("the day is noted all the same", x.days(), 2);
        due("check", x.check(), 1);
    }

    @Says(where = "Terms, outcomes",
            text = "the divisor is changed (but for kind 3) so that the level stays just what it was")
    private static void levelStaysJustWhatItWas() {
        int[][] events = {{SPLIT, 1, 7, 1, 0}, {RIGHTS, 1, 1, 1, 2}, {SPECIAL, 0, 7, 0, 0}, {LEAVING, 0, 0, 0, 0},
            {JOINING, 7, 0, 0, 0}, {NEW_COUNT, 2, 3, 0, 0}, {NEW_FLOAT, 2, 99, 0, 0}, {CAP, 7, 34, 0, 0}};
        for (int[] e : events) {
            Bureau x = of(61, 31, 11);
            dueDone(x, CAP, 0, 50, 0, 0);
            x.set(2, PRICE, 13);
            String level = x.exactLevel();
            String divisor = x.divisor();
            dueDone(x, e[0], e[1], e[2], e[3], e[4]);
            dueText("the level behind an event of kind " + e[0], x.exactLevel(), level);
            due("the divisor is another", x.divisor().equals(divisor) ? 0 : 1, 1);
            due("check", x.check(), 1);
        }
    }

    @Says(where = "Terms, outcomes", text = "If the share of an event is a member (or it is of kind 4, 5 or 8)")
    private static void divisorGoesWithWhatJoinsLeavesAndCaps() {
        Bureau x = of(60, 30, 10);
        dueDone(x, JOINING, 7, 0, 0, 0);
        dueText("the divisor behind one that was none", x.divisor(), "101/10");
        dueDone(x, LEAVING, 7, 0, 0, 0);
        dueText("the divisor behind one that is none", x.divisor(), "10");
        dueDone(x, CAP, 7, 50, 0, 0);
        dueText("the divisor behind a cap of a share that is none", x.divisor(), "8");
        dueText("level", x.exactLevel(), "10");
    }

    @Says(where = "Terms, outcomes", text = "a share that is none changes alone")
    private static void noMemberChangesAlone() {
        int[][] events = {{SPLIT, 2, 2, 1, 0}, {RIGHTS, 2, 1, 1, 1}, {SPECIAL, 2, 1, 0, 0}, {ORDINARY, 2, 1, 0, 0},
            {NEW_COUNT, 2, MOST_COUNT, 0, 0}, {NEW_FLOAT, 2, MOST_FLOAT, 0, 0}};
        int[][] shares = {{4, 2, 1}, {4, 2, 1}, {6, 1, 1}, {6, 1, 1}, {7, MOST_COUNT, 1}, {7, 1, MOST_FLOAT}};
        for (int i = 0; i < events.length; i++) {
            int[] e = events[i];
            Bureau x = ofLongestBelow(3, 2);
            x.set(2, PRICE, 7);
            dueDone(x, e[0], e[1], e[2], e[3], e[4]);
            dueShare(x, 2, shares[i][0], shares[i][1], shares[i][2]);
            dueShare(x, 0, 3, 1, 1);
            dueText("divisor", x.divisor(), "1/" + twoTo(511));
            due("members", x.members(), 3);
        }
    }

    @Says(where = "Terms", text = "Behind all events the level is PUBLISHED and noted as that of the day")
    private static void publishedBehindAllEvents() {
        Bureau x = ofOne(100, 10);
        x.event(NEW_FLOAT, 0, 2, 0, 0);
        x.event(ORDINARY, 0, 10, 0, 0);
        x.event(SPECIAL, 0, 1, 0, 0);
        due("close", x.close(), 3);
        due("published, 89 of 99 of 10", x.published(0), 899);
        x.set(0, PRICE, 178);
        due("published stays", x.published(0), 899);
        due("the level goes", x.level(), 1798);
    }

    @Says(where = "Terms", text = "then it is the next day")
    private static void thenTheNextDay() {
        Bureau x = ofOne(100, 10);
        due("days", x.days(), 0);
        x.close();
        due("days", x.days(), 1);
        x.set(0, PRICE, 200);
        x.close();
        due("days", x.days(), 2);
        due("day 0", x.published(0), 1000);
        due("day 1", x.published(1), 2000);
    }

    @Says(where = "Terms", text = "At most 250 days are noted.")
    private static void atMost250Days() {
        Bureau x = ofOne(1000, 1);
        for (int day = 0; day < 249; day++) {
            due("close", x.close(), 0);
        }
        due("days", x.days(), 249);
        x.set(0, PRICE, 2000);
        due("the last close", x.close(), 0);
        dueThrow("one close more", IllegalStateException.class, x::close);
        due("days", x.days(), 250);
        due("published(248)", x.published(248), 1000);
        due("published(249)", x.published(249), 2000);
        due("published(250)", x.published(250), NONE);
    }

    // ---- Terms: What throws changes nothing. ----

    @Says(where = "Terms", text = "What throws changes nothing.")
    private static void setThatThrowsChangesNothing() {
        Bureau x = of(60, 30, 10);
        String before = state(x);
        for (int share : new int[] {-1, 8, MIN, MAX}) {
            dueThrow("share " + share, IndexOutOfBoundsException.class, () -> x.set(share, PRICE, 7));
        }
        for (int what : new int[] {-1, 3, MIN, MAX}) {
            dueThrow("what " + what, IllegalArgumentException.class, () -> x.set(0, what, 7));
        }
        dueText("state", state(x), before);
    }

    @Says(where = "Terms", text = "What throws changes nothing.")
    private static void baseThatThrowsChangesNothing() {
        Bureau x = ofOneLeft();
        x.event(SPECIAL, 1, 5, 0, 0);
        String before = state(x);
        due("print", x.print(2, 0), 3);
        dueThrow("no members", IllegalArgumentException.class, () -> x.base(0, 5));
        dueThrow("a bit above 7", IllegalArgumentException.class, () -> x.base(257, 5));
        dueThrow("level 0", IllegalArgumentException.class, () -> x.base(1, 0));
        dueThrow("a level too great", IllegalArgumentException.class, () -> x.base(1, 1000001));
        due("what was printed stays", x.character(1), '/');
        due("days", x.days(), 2);
        due("published", x.published(1), 1000);
        due("outcome", x.outcome(0), DONE);
        due("noted", x.noted(0), 0);
        dueText("state", state(x), before);
        due("what is noted stays", x.event(SPECIAL, 1, 6, 0, 0), 2);
        due("close", x.close(), 2);
        due("price", x.get(1, PRICE), 19);
    }

    @Says(where = "Terms", text = "What throws changes nothing.")
    private static void baseThatThrowsMakesNoIndex() {
        Bureau x = new Bureau();
        dueThrow("no members", IllegalArgumentException.class, () -> x.base(0, 5));
        dueThrow("level 0", IllegalArgumentException.class, () -> x.base(1, 0));
        due("members", x.members(), NONE);
        due("days", x.days(), NONE);
        due("event", x.event(SPECIAL, 0, 1, 0, 0), NONE);
        due("a count can still be set", x.set(0, COUNT, 5), 0);
    }

    @Says(where = "Terms", text = "What throws changes nothing.")
    private static void closeThatThrowsChangesNothing() {
        Bureau x = ofOne(100, 1);
        for (int day = 0; day < 249; day++) {
            x.close();
        }
        x.event(SPECIAL, 0, 1, 0, 0);
        x.event(LEAVING, 0, 0, 0, 0);
        due("the last close", x.close(), 1);
        due("event", x.event(SPECIAL, 0, 9, 0, 0), 1);
        String before = state(x);
        dueThrow("a close too many", IllegalStateException.class, x::close);
        dueText("state", state(x), before);
        due("days", x.days(), 250);
        due("outcome of the last close", x.outcome(1), BY_MEMBERS);
        due("noted of the last close", x.noted(1), 1);
        due("what is noted stays", x.event(SPECIAL, 0, 9, 0, 0), 2);
    }

    @Says(where = "Terms", text = "What throws changes nothing.")
    private static void closeWithoutAnIndexChangesNothing() {
        Bureau x = new Bureau();
        put(x, 0, 7, 8, 9);
        dueThrow("close", IllegalStateException.class, x::close);
        dueShare(x, 0, 7, 8, 9);
        due("days", x.days(), NONE);
        x.base(1, 10);
        due("days", x.days(), 0);
        due("published", x.published(0), NONE);
    }

    @Says(where = "Terms", text = "The constants: `NONE = -1`: There is none.")
    private static void noneIsMinusOne() {
        due("NONE", IndexBureau.NONE, -1);
    }

    // ---- Promise 1 ----

    @Says(where = "Promise 1", text = "No index")
    private static void newObjectHasNoIndex() {
        Bureau x = new Bureau();
        due("members", x.members(), NONE);
        due("level", x.level(), NONE);
        due("days", x.days(), NONE);
        due("check", x.check(), NONE);
        due("places", x.places(0), NONE);
        due("weight", x.weight(0), NONE);
        due("print", x.print(0, 0), NONE);
    }

    @Says(where = "Promise 1", text = "nothing noted")
    private static void newObjectHasNothingNoted() {
        Bureau x = new Bureau();
        due("published", x.published(0), NONE);
        due("outcome", x.outcome(0), NONE);
        due("noted", x.noted(0), NONE);
        due("character", x.character(0), NONE);
        x.base(1, 1);
        due("the first event", x.event(SPECIAL, 0, 1, 0, 0), 1);
    }

    // ---- Promise 2: set ----

    @Says(where = "Promise 2", text = "before the index is based, or between closes")
    private static void setBeforeAndBetween() {
        Bureau x = new Bureau();
        put(x, 0, 100, 10, 5);
        put(x, 1, 100, 10, 5);
        x.base(1, 10);
        due("a member's price behind base", x.set(0, PRICE, 200), 0);
        put(x, 1, 7, 8, 9);
        dueShare(x, 1, 7, 8, 9);
        x.event(SPECIAL, 0, 1, 0, 0);
        due("a member's price with an event noted", x.set(0, PRICE, 300), 0);
        due("close", x.close(), 1);
        due("the price at the close counts", x.get(0, PRICE), 299);
        due("a member's price behind a close", x.set(0, PRICE, 400), 0);
    }

    @Says(where = "Promise 2", text = "the level goes with the price")
    private static void levelGoesWithThePrice() {
        Bureau x = ofOne(100, 1);
        x.set(0, PRICE, MOST_PRICE);
        dueText("level", x.exactLevel(), "9999999/10");
        x.set(0, PRICE, 1);
        dueText("level", x.exactLevel(), "1/10");
        dueText("divisor", x.divisor(), "10");
        x.set(7, PRICE, 2);
        dueText("the level without a price of a member", x.exactLevel(), "1/10");
    }

    @Says(where = "Promise 2", text = "NONE, and nothing is done, for counts and floats of members")
    private static void countsAndFloatsOfMembers() {
        Bureau x = of(60, 30);
        due("count", x.set(0, COUNT, 5), NONE);
        due("float", x.set(0, FLOAT, 5), NONE);
        due("the count that it has", x.set(0, COUNT, 1), NONE);
        dueShare(x, 0, 60, 1, 1);
        dueDone(x, LEAVING, 0, 0, 0, 0);
        dueDone(x, JOINING, 7, 0, 0, 0);
        due("the count of one that has left", x.set(0, COUNT, 5), 0);
        due("the float of one that has left", x.set(0, FLOAT, 5), 0);
        dueShare(x, 0, 60, 5, 5);
        due("the count of one that has joined", x.set(7, COUNT, 5), NONE);
        due("the float of one that has joined", x.set(7, FLOAT, 5), NONE);
        dueShare(x, 7, 1, 1, 1);
        x.base(1, 10);
        due("the count of one that base left out", x.set(7, COUNT, 5), 0);
        due("the count of one that base took in", x.set(0, COUNT, 6), NONE);
    }

    @Says(where = "Promise 2", text = "and for what is out of its bounds")
    private static void setOutOfBounds() {
        Bureau x = of(60, 30);
        int[] most = {MOST_PRICE, MOST_COUNT, MOST_FLOAT};
        for (int what = 0; what < 3; what++) {
            for (int bad : new int[] {0, -1, most[what] + 1, MIN, MAX}) {
                due("of a member", x.set(0, what, bad), NONE);
                due("of one that is none", x.set(7, what, bad), NONE);
            }
        }
        dueShare(x, 0, 60, 1, 1);
        dueShare(x, 7, 1, 1, 1);
    }

    @Says(where = "Promise 2", text = "what: 0 price, 1 count, 2 float.")
    private static void whatIsSet() {
        Bureau x = new Bureau();
        x.set(0, 0, 101);
        x.set(1, 1, 102);
        due("a float of 102", x.set(2, 2, 102), NONE);
        x.set(2, 2, 99);
        dueShare(x, 0, 101, 1, 1);
        dueShare(x, 1, 1, 102, 1);
        dueShare(x, 2, 1, 1, 99);
    }

    @Says(where = "Promise 2", text = "0 when it is done.")
    private static void zeroWhenItIsDone() {
        Bureau x = new Bureau();
        due("set", x.set(0, PRICE, 5), 0);
        due("set to what it is", x.set(0, PRICE, 5), 0);
        due("set the most", x.set(0, PRICE, MOST_PRICE), 0);
    }

    @Says(where = "Promise 2", text = "IndexOutOfBoundsException when there is no such share")
    private static void setOfNoShare() {
        Bureau x = new Bureau();
        for (int bad : new int[] {-1, 8, MIN, MAX}) {
            dueThrow("share " + bad, IndexOutOfBoundsException.class, () -> x.set(bad, PRICE, 5));
            dueThrow("a bad v", IndexOutOfBoundsException.class, () -> x.set(bad, PRICE, 0));
        }
        due("share 0", x.set(0, PRICE, 5), 0);
        due("share 7", x.set(7, PRICE, 5), 0);
    }

    @Says(where = "Promise 2", text = "IllegalArgumentException when there is no such what.")
    private static void setOfNoWhat() {
        Bureau x = new Bureau();
        for (int bad : new int[] {-1, 3, MIN, MAX}) {
            dueThrow("what " + bad, IllegalArgumentException.class, () -> x.set(0, bad, 5));
            dueThrow("a bad v", IllegalArgumentException.class, () -> x.set(0, bad, 0));
        }
    }

    // ---- Promise 3: get ----

    @Says(where = "Promise 3", text = "What it is.")
    private static void getTellsTheLeastAndTheMost() {
        Bureau x = new Bureau();
        put(x, 7, MOST_PRICE, MOST_COUNT, MOST_FLOAT);
        dueShare(x, 7, MOST_PRICE, MOST_COUNT, MOST_FLOAT);
        dueShare(x, 6, 1, 1, 1);
    }

    @Says(where = "Promise 3", text = "IndexOutOfBoundsException, IllegalArgumentException likewise.")
    private static void getOfNoShare() {
        Bureau x = new Bureau();
        for (int bad : new int[] {-1, 8, MIN, MAX}) {
            dueThrow("share " + bad, IndexOutOfBoundsException.class, () -> x.get(bad, FLOAT));
        }
    }

    @Says(where = "Promise 3", text = "IndexOutOfBoundsException, IllegalArgumentException likewise.")
    private static void getOfNoWhat() {
        Bureau x = new Bureau();
        for (int bad : new int[] {-1, 3, MIN, MAX}) {
            dueThrow("what " + bad, IllegalArgumentException.class, () -> x.get(7, bad));
        }
    }

    // ---- Promise 4: base ----

    @Says(where = "Promise 4", text = "bit s of members is 1 for each member s")
    private static void bitsOfMembers() {
        for (int s = 0; s < 8; s++) {
            Bureau x = new Bureau();
            x.base(1 << s, 1);
            for (int other = 0; other < 8; other++) {
                due("weight of " + other + " with member " + s, x.weight(other), other == s ? 1000000000 : NONE);
            }
        }
        Bureau all = new Bureau();
        all.base(255, 1);
        due("all", all.members(), 255);
    }

    @Says(where = "Promise 4", text = "IllegalArgumentException when there are none")
    private static void baseWithoutMembers() {
        Bureau x = new Bureau();
        dueThrow("none", IllegalArgumentException.class, () -> x.base(0, 1));
        x.base(1, 1);
        due("one", x.members(), 1);
    }

    @Says(where = "Promise 4", text = "or bits above 7")
    private static void baseWithBitsAbove7() {
        Bureau x = new Bureau();
        for (int bad : new int[] {256, 257, 511, 1 << 30, MIN, MIN + 1, MAX, -1}) {
            dueThrow("members " + bad, IllegalArgumentException.class, () -> x.base(bad, 1));
        }
        x.base(128, 1);
        due("bit 7", x.members(), 128);
    }

    @Says(where = "Promise 4", text = "or the level is not 1 .. 1000000.")
    private static void baseWithALevelOutOfBounds() {
        Bureau x = new Bureau();
        for (int bad : new int[] {0, -1, 1000001, MIN, MAX}) {
            dueThrow("level " + bad, IllegalArgumentException.class, () -> x.base(1, bad));
        }
        x.base(1, 1);
        due("the least level", x.level(), 100);
        x.base(1, 1000000);
        due("the greatest level", x.level(), 100000000);
    }

    // ---- Promises 5 to 7: members, event, close ----

    @Says(where = "Promise 5", text = "Which shares are members (as bits)")
    private static void membersFromOneToEight() {
        Bureau x = new Bureau();
        x.base(128, 1);
        for (int s = 0; s < 7; s++) {
            dueDone(x, JOINING, s, 0, 0, 0);
        }
        due("all eight", x.members(), 255);
        for (int s = 7; s > 0; s--) {
            dueDone(x, LEAVING, s, 0, 0, 0);
        }
        due("the only one", x.members(), 1);
    }

    @Says(where = "Promise 5", text = "NONE without an index.")
    private static void membersWithoutAnIndex() {
        Bureau x = new Bureau();
        due("members", x.members(), NONE);
        x.base(255, 1);
        due("members", x.members(), 255);
    }

    @Says(where = "Promise 6", text = "Notes an event: how many are noted.")
    private static void howManyAreNoted() {
        Bureau x = ofOne(100, 1);
        due("the first", x.event(SPECIAL, 0, 1, 0, 0), 1);
        due("one that will not be done", x.event(LEAVING, 0, MIN, MAX, -1), 2);
        due("close", x.close(), 1);
        due("the first behind a close", x.event(SPECIAL, 0, 1, 0, 0), 1);
    }

    @Says(where = "Promise 6", text = "NONE, and nothing is noted, when there are 16")
    private static void eventBehind16() {
        Bureau x = ofOne(100, 1);
        for (int i = 0; i < 16; i++) {
            due("event " + i, x.event(SPECIAL, 0, 1, 0, 0), i + 1);
        }
        due("event 16", x.event(SPLIT, 0, 2, 1, 0), NONE);
        due("close", x.close(), 16);
        dueShare(x, 0, 84, 1, 1);
        due("outcome(15)", x.outcome(15), DONE);
        due("outcome(16)", x.outcome(16), NONE);
    }

    @Says(where = "Promise 6", text = "there is no such kind or share")
    private static void eventOfNoKind() {
        Bureau x = ofOne(100, 1);
        for (int bad : new int[] {-1, 9, MIN, MAX}) {
            due("kind " + bad, x.event(bad, 0, 1, 1, 1), NONE);
        }
        due("close", x.close(), 0);
        due("outcome", x.outcome(0), NONE);
        due("kind 0", x.event(0, 0, 1, 1, 1), 1);
        due("kind 8", x.event(8, 0, 1, 1, 1), 2);
    }

    @Says(where = "Promise 6", text = "there is no such kind or share")
    private static void eventOfNoShare() {
        Bureau x = ofOne(100, 1);
        for (int kind = 0; kind < KINDS; kind++) {
            for (int bad : new int[] {-1, 8, MIN, MAX}) {
                due("share " + bad + " of kind " + kind, x.event(kind, bad, 1, 1, 1), NONE);
            }
        }
        due("close", x.close(), 0);
        due("outcome", x.outcome(0), NONE);
        due("share 0", x.event(SPLIT, 0, 1, 1, 1), 1);
        due("share 7", x.event(SPLIT, 7, 1, 1, 1), 2);
    }

    @Says(where = "Promise 6", text = "or no index")
    private static void eventWithoutAnIndex() {
        Bureau x = new Bureau();
        due("event", x.event(SPLIT, 0, 1, 1, 1), NONE);
        x.base(1, 1);
        due("close", x.close(), 0);
        due("event", x.event(SPLIT, 0, 1, 1, 1), 1);
    }

    @Says(where = "Promise 7", text = "how many events were done (their outcomes are 0)")
    private static void howManyWereDone() {
        Bureau x = ofOne(100, 1);
        due("of none", x.close(), 0);
        x.event(SPECIAL, 0, 100, 0, 0);
        due("none of one", x.close(), 0);
        for (int i = 0; i < 16; i++) {
            x.event(SPECIAL, 0, 10, 0, 0);
        }
        due("nine of 16", x.close(), 9);
        due("outcome of the ninth", x.outcome(8), DONE);
        due("outcome of the tenth", x.outcome(9), BY_NUMBERS);
        due("price", x.get(0, PRICE), 10);
        for (int i = 0; i < 16; i++) {
            x.event(NEW_COUNT, 0, 10, 0, 0);
        }
        due("all of 16", x.close(), 16);
    }

    @Says(where = "Promise 7", text = "IllegalStateException when there is no index")
    private static void closeWithoutAnIndex() {
        Bureau x = new Bureau();
        dueThrow("close", IllegalStateException.class, x::close);
        x.base(1, 1);
        due("close", x.close(), 0);
    }

    @Says(where = "Promise 7", text = "or 250 days are noted.")
    private static void closeBehind250Days() {
        Bureau x = ofOne(100, 1);
        for (int day = 0; day < 250; day++) {
            due("close", x.close(), 0);
        }
        dueThrow("close", IllegalStateException.class, x::close);
        dueThrow("close once more", IllegalStateException.class, x::close);
        x.base(1, 1);
        due("close behind base", x.close(), 0);
    }

    // ---- Promises 8 and 9: outcome, noted ----

    /** Three events are done in the order 1, 2, 0, with the outcomes 1, 0, 2. */
    private static Bureau ofThreeEvents() {
        Bureau x = ofOne(100, 1);
        x.event(LEAVING, 0, 0, 0, 0);
        x.event(SPECIAL, 0, 100, 0, 0);
        x.event(SPECIAL, 0, 99, 0, 0);
        due("close", x.close(), 1);
        return x;
    }

    @Says(where = "Promise 8", text = "in the order in which they were done")
    private static void outcomesInTheOrderOfTheClose() {
        Bureau x = ofThreeEvents();
        due("outcome(0)", x.outcome(0), BY_NUMBERS);
        due("outcome(1)", x.outcome(1), DONE);
        due("outcome(2)", x.outcome(2), BY_MEMBERS);
    }

    @Says(where = "Promise 8", text = "The outcome of event i of the latest close()")
    private static void outcomesOfTheLatestClose() {
        Bureau x = ofThreeEvents();
        x.event(SPECIAL, 0, 1, 0, 0);
        due("stays while others are noted", x.outcome(1), DONE);
        x.close();
        due("of the next close", x.outcome(0), BY_NUMBERS);
        due("of the close before", x.outcome(1), NONE);
        x.close();
        due("of a close without events", x.outcome(0), NONE);
    }

    @Says(where = "Promise 8", text = "NONE when there is no such event")
    private static void outcomeOfNoEvent() {
        Bureau x = ofThreeEvents();
        for (int bad : new int[] {-1, 3, 15, 16, MIN, MAX}) {
            due("outcome(" + bad + ")", x.outcome(bad), NONE);
        }
    }

    @Says(where = "Promise 8", text = "or it was none since base()")
    private static void outcomeBehindBase() {
        Bureau x = ofThreeEvents();
        x.base(1, 1);
        due("behind base", x.outcome(0), NONE);
        x.event(SPLIT, 0, 1, 1, 0);
        due("not yet closed", x.outcome(0), NONE);
        x.close();
        due("closed", x.outcome(0), DONE);
    }

    @Says(where = "Promise 9", text = "its place in the order in which they were noted")
    private static void placesOfEvents() {
        Bureau x = ofThreeEvents();
        due("noted(0)", x.noted(0), 1);
        due("noted(1)", x.noted(1), 2);
        due("noted(2)", x.noted(2), 0);
    }

    @Says(where = "Promise 9", text = "NONE likewise.")
    private static void placeOfNoEvent() {
        Bureau x = ofThreeEvents();
        for (int bad : new int[] {-1, 3, 15, 16, MIN, MAX}) {
            due("noted(" + bad + ")", x.noted(bad), NONE);
        }
        x.close();
        due("of a close without events", x.noted(0), NONE);
    }

    @Says(where = "Promise 9", text = "NONE likewise.")
    private static void placeBehindBase() {
        Bureau x = ofThreeEvents();
        x.base(1, 1);
        due("behind base", x.noted(0), NONE);
        x.event(SPLIT, 0, 1, 1, 0);
        due("not yet closed", x.noted(0), NONE);
        x.close();
        due("closed", x.noted(0), 0);
    }

    // ---- Promises 10 to 13: days, published, level, weight ----

    @Says(where = "Promise 10", text = "How many days are noted")
    private static void daysFrom0To250() {
        Bureau x = ofOne(100, 1);
        due("at first", x.days(), 0);
        for (int day = 0; day < 250; day++) {
            x.close();
        }
        due("at last", x.days(), 250);
    }

    @Says(where = "Promise 10", text = "NONE without an index.")
    private static void daysWithoutAnIndex() {
        Bureau x = new Bureau();
        due("days", x.days(), NONE);
        x.base(1, 1);
        due("days", x.days(), 0);
    }

    @Says(where = "Promise 11", text = "The published level of a day")
    private static void publishedOfTheFirstAndTheLastDay() {
        Bureau x = ofOne(100, 1);
        x.close();
        x.set(0, PRICE, 200);
        for (int day = 1; day < 249; day++) {
            x.close();
        }
        x.set(0, PRICE, 300);
        x.close();
        due("the first day", x.published(0), 1000);
        due("the second day", x.published(1), 2000);
        due("the last but one", x.published(248), 2000);
        due("the last day", x.published(249), 3000);
    }

    @Says(where = "Promise 11", text = "NONE when it is not noted.")
    private static void publishedOfNoDay() {
        Bureau x = new Bureau();
        due("without an index", x.published(0), NONE);
        x.base(1, 1);
        due("before the first close", x.published(0), NONE);
        x.close();
        due("the first day", x.published(0), 100);
        for (int bad : new int[] {-1, 1, 249, 250, MIN, MAX}) {
            due("published(" + bad + ")", x.published(bad), NONE);
        }
        x.base(1, 1);
        due("behind base", x.published(0), NONE);
    }

    @Says(where = "Promise 12", text = "The published level as it is now")
    private static void levelAsItIsNow() {
        Bureau x = ofOne(100, 1);
        for (int day = 0; day < 250; day++) {
            x.close();
        }
        x.set(0, PRICE, 7);
        due("behind the last day", x.level(), 70);
        due("the last day", x.published(249), 1000);
    }

    @Says(where = "Promise 12", text = "NONE without an index.")
    private static void levelWithoutAnIndex() {
        Bureau x = new Bureau();
        due("level", x.level(), NONE);
        x.base(1, 1);
        due("level", x.level(), 100);
    }

    @Says(where = "Promise 13", text = "How much of all members' worth a share has")
    private static void weightOfMembersAlone() {
        Bureau x = of(60, 30, 10);
        x.set(7, PRICE, MOST_PRICE);
        due("without those that are none", x.weight(0), 600000000);
        dueDone(x, CAP, 0, 50, 0, 0);
        due("with its factor", x.weight(0), 500000000);
        due("with another's factor", x.weight(2), 125000000);
    }

    @Says(where = "Promise 13", text = "in billionths, rounded down")
    private static void weightIsRoundedDown() {
        Bureau x = of(1, 2);
        due("a third", x.weight(0), 333333333);
        due("two thirds", x.weight(1), 666666666);
        due("all", of(7).weight(0), 1000000000);
        Bureau y = new Bureau();
        put(y, 0, 1, 1, 1);
        put(y, 1, 999999, 1000, 1);
        put(y, 2, 999, 1, 1);
        y.base(7, 1);
        due("just a billionth", y.weight(0), 1);
        y.set(2, PRICE, 1000);
        due("less than a billionth", y.weight(0), 0);
        due("nearly all", y.weight(1), 999998999);
    }

    @Says(where = "Promise 13", text = "NONE when it is no member.")
    private static void weightOfNoMember() {
        Bureau x = ofOneLeft();
        due("one that has left", x.weight(0), NONE);
        due("one that never joined", x.weight(7), NONE);
        for (int bad : new int[] {-1, 8, 32, 33, -31, MIN, MAX}) {
            due("weight(" + bad + ")", x.weight(bad), NONE);
        }
        due("without an index", new Bureau().weight(0), NONE);
    }

    // ---- Promises 14 and 15: print, character ----

    @Says(where = "Promise 14",
            text = "Prints a fraction: the level (what 0), the divisor (1), the factor of a share (2)")
    private static void whatIsPrinted() {
        Bureau x = of(60, 30, 10);
        dueDone(x, CAP, 0, 50, 0, 0);
        due("print", x.print(0, 0), 2);
        dueText("the level", x.text(2), "10");
        due("print", x.print(1, 0), 1);
        dueText("the divisor", x.text(1), "8");
        due("print", x.print(2, 0), 3);
        dueText("the factor", x.text(3), "2/3");
    }

    @Says(where = "Promise 14", text = "and, if that below is not 1, '/' and it")
    private static void printOfAWholeNumber() {
        Bureau x = new Bureau();
        x.set(0, PRICE, 6);
        x.base(1, 3);
        due("the divisor 2", x.print(1, 0), 1);
        dueText("the divisor", x.text(1), "2");
        due("the level 3", x.print(0, 0), 1);
        due("the factor 1", x.print(2, 0), 1);
        dueText("the factor", x.text(1), "1");
        x.base(1, 4);
        due("the divisor 3/2", x.print(1, 0), 3);
        dueText("the divisor", x.text(3), "3/2");
    }

    @Says(where = "Promise 14", text = "in least terms")
    private static void printInLeastTerms() {
        Bureau x = new Bureau();
        x.set(0, PRICE, 1000000);
        x.base(1, 1000000);
        dueText("divisor", x.divisor(), "1");
        x.set(0, PRICE, 250000);
        x.base(1, 1000000);
        dueText("divisor", x.divisor(), "1/4");
        Bureau y = of(60, 30, 10);
        dueDone(y, CAP, 0, 50, 0, 0);
        dueText("factor", y.factor(0), "2/3");
        y.set(1, PRICE, 60);
        dueText("level", y.exactLevel(), "55/4");
    }

    @Says(where = "Promise 14", text = "how many characters")
    private static void printOfTheLongestDivisor() {
        Bureau x = ofLongestBelow();
        String want = "1/" + twoTo(511);
        due("how many", x.print(1, 0), want.length());
        dueText("divisor", x.text(want.length()), want);
        due("the level", x.print(0, 0), twoTo(512).length());
        dueText("level", x.text(twoTo(512).length()), twoTo(512));
    }

    @Says(where = "Promise 14", text = "the number above in decimal")
    private static void printWithZerosInside() {
        Bureau x = ofLevel(1, 1000000, 1000000, 1000000, 1000001);
        dueText("level", x.exactLevel(), "1000001000000000000000000");
        x.set(0, PRICE, 10);
        dueText("level", x.exactLevel(), "10000000000000000000");
        dueText("divisor", x.divisor(), "1/1000000000000000000");
    }

    @Says(where = "Promise 14", text = "NONE, and what was printed stays, without an index")
    private static void printWithoutAnIndex() {
        Bureau x = new Bureau();
        for (int what = 0; what < 3; what++) {
            due("print", x.print(what, 0), NONE);
        }
        due("nothing was printed", x.character(0), NONE);
    }

    /** The level 2000000/3 was printed. */
    private static Bureau ofPrinted() {
        Bureau x = new Bureau();
        x.set(0, PRICE, 6);
        x.base(1, 4);
        x.set(0, PRICE, 1000000);
        due("print", x.print(0, 0), 9);
        return x;
    }

    @Says(where = "Promise 14", text = "or when there is no such what")
    private static void printOfNoWhat() {
        Bureau x = ofPrinted();
        for (int bad : new int[] {-1, 3, MIN, MAX}) {
            due("print(" + bad + ")", x.print(bad, 0), NONE);
        }
        dueText("what was printed stays", x.text(9), "2000000/3");
        due("behind it", x.character(9), NONE);
    }

    @Says(where = "Promise 14", text = "or (for 2) share")
    private static void printOfNoShare() {
        Bureau x = ofPrinted();
        for (int bad : new int[] {-1, 8, MIN, MAX}) {
            due("print(2, " + bad + ")", x.print(2, bad), NONE);
        }
        dueText("what was printed stays", x.text(9), "2000000/3");
        for (int any : new int[] {-1, 8, MIN, MAX}) {
            due("print(0, " + any + ")", x.print(0, any), 9);
            due("print(1, " + any + ")", x.print(1, any), 3);
        }
        due("a share that is no member", x.print(2, 7), 1);
    }

    @Says(where = "Promise 15", text = "Character i of what was printed latest")
    private static void characterOfTheLatest() {
        Bureau x = ofPrinted();
        due("the first", x.character(0), '2');
        due("the last", x.character(8), '3');
        due("print", x.print(1, 0), 3);
        due("the first of the latest", x.character(0), '3');
        due("the last of the latest", x.character(2), '2');
        due("of what was longer", x.character(3), NONE);
        x.set(0, PRICE, 7);
        x.close();
        x.base(1, 5);
        due("behind base", x.character(1), '/');
        due("behind base", x.character(2), '2');
    }

    @Says(where = "Promise 15", text = "NONE when there is none.")
    private static void noSuchCharacter() {
        Bureau x = new Bureau();
        due("nothing was printed", x.character(0), NONE);
        x.base(1, 1);
        due("nothing was printed", x.character(0), NONE);
        Bureau y = ofPrinted();
        for (int bad : new int[] {-1, 9, 639, 640, MIN, MAX}) {
            due("character(" + bad + ")", y.character(bad), NONE);
        }
    }

    // ---- Promises 16 and 17: places, check ----

    @Says(where = "Promise 16",
            text = "How many binary digits the divisor, in least terms, has above (what 0) or below (1)")
    private static void placesOfTheDivisor() {
        Bureau x = new Bureau();
        int[] worths = {1, 2, 3, 4, 7, 8, 8388607, 8388608, MOST_PRICE};
        int[] digits = {1, 2, 2, 3, 3, 4, 23, 24, 24};
        for (int i = 0; i < worths.length; i++) {
            x.set(0, PRICE, worths[i]);
            x.base(1, 1);
            due("above, of " + worths[i], x.places(0), digits[i]);
            due("below", x.places(1), 1);
        }
        x.set(0, PRICE, 6);
        x.base(1, 4);
        due("above, of 3/2", x.places(0), 2);
        due("below, of 3/2", x.places(1), 2);
        due("above, of the longest", ofLongestAbove().places(0), 512);
        due("below, of the longest", ofLongestBelow().places(1), 512);
    }

    @Says(where = "Promise 16", text = "binary digits")
    private static void placesAtTheEdgesOfWords() {
        for (int digits : new int[] {30, 31, 32, 33, 60, 61, 63, 64, 65}) {
            Bureau x = new Bureau();
            x.base(3, 2);
            int left = digits - 1;
            while (left > 0) {
                halveDivisor(x, Math.min(left, 22));
                left -= Math.min(left, 22);
            }
            due("below", x.places(1), digits);
        }
    }

    @Says(where = "Promise 16", text = "NONE otherwise, or without an index.")
    private static void placesOtherwise() {
        Bureau x = ofOne(100, 1);
        for (int bad : new int[] {-1, 2, MIN, MAX}) {
            due("places(" + bad + ")", x.places(bad), NONE);
        }
        due("without an index", new Bureau().places(0), NONE);
        due("without an index", new Bureau().places(1), NONE);
    }

    @Says(where = "Promise 17",
            text = "Whether all events that were done since base() left the level just what it was (but for "
                    + "ordinary dividends)")
    private static void checkBehindEvents() {
        Bureau x = of(61, 31, 11);
        due("behind base", x.check(), 1);
        dueDone(x, ORDINARY, 0, 60, 0, 0);
        due("behind an ordinary dividend", x.check(), 1);
        dueDone(x, SPECIAL, 1, 30, 0, 0);
        due("behind a special one", x.check(), 1);
        x.set(2, PRICE, 12);
        due("behind a price", x.check(), 1);
        due("refused", outcomeOf(x, CAP, 0, 33, 0, 0), BY_MEMBERS);
        due("behind a refused one", x.check(), 1);
        Bureau full = ofLongestBelow(3, 2);
        due("too long", outcomeOf(full, SPECIAL, 0, 2, 0, 0), TOO_LONG);
        due("behind one that is too long", full.check(), 1);
    }

    @Says(where = "Promise 17", text = "and what caps made is worth just that, and not more: 1")
    private static void checkBehindCaps() {
        Bureau x = of(70, 20, 10);
        x.set(7, PRICE, MOST_PRICE);
        dueDone(x, CAP, 7, 40, 0, 0);
        due("one is large, one worth just the cap, and one that is no member worth more", x.check(), 1);
        due("weight", x.weight(0), 400000000);
        due("weight", x.weight(1), 400000000);
        dueDone(x, CAP, 0, 34, 0, 0);
        due("the least cap", x.check(), 1);
        dueDone(x, CAP, 0, 100, 0, 0);
        due("the greatest cap", x.check(), 1);
        x.set(0, PRICE, MOST_PRICE);
        due("a price behind a cap", x.check(), 1);
    }

    @Says(where = "Promise 17", text = "NONE without an index.")
    private static void checkWithoutAnIndex() {
        Bureau x = new Bureau();
        due("check", x.check(), NONE);
        x.base(1, 1);
        due("check", x.check(), 1);
    }

    private static boolean holds(Method test, Says says) throws IllegalAccessException {
        FAULTS.clear();
        try {
            test.invoke(null);
        } catch (InvocationTargetException e) {
            FAULTS.add("it ended with " + e.getCause());
        }
        if (!FAULTS.isEmpty()) {
            System.out.println(test.getName() + ": " + says.where() + ": \"" + says.text() + "\"");
        }
        for (String fault : FAULTS) {
            System.out.println("    " + fault);
        }
        return FAULTS.isEmpty();
    }

    public static void main(String[] args) throws IllegalAccessException {
        Method[] methods = BoundaryTest.class.getDeclaredMethods();
        Arrays.sort(methods, Comparator.comparing(Method::getName));
        int tests = 0;
        int wrong = 0;
        for (Method method : methods) {
            Says says = method.getAnnotation(Says.class);
            if (says != null) {
                tests++;
                wrong += holds(method, says) ? 0 : 1;
            }
        }
        System.out.println(tests + " tests of boundaries, " + wrong + " do not hold");
        if (tests == 0 || wrong != 0) {
            System.exit(1);
        }
    }
}
