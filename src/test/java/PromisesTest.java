/** For each promise its ordinary inputs, the edges that the document names, and wrong inputs. */
public final class PromisesTest {
    private static final int NONE = IndexBureau.NONE;
    private static final int PRICE = 0;
    private static final int COUNT = 1;
    private static final int FLOAT = 2;
    private static final int MIN = Integer.MIN_VALUE;
    private static final int MAX = Integer.MAX_VALUE;

    private static int wrong = 0;
    private static int promise = 0;

    /** A call whose exception is looked at. */
    private interface Attempt {
        void make();
    }

    private static void due(String what, long got, long want) {
        if (got != want) {
            fault(what + " answered " + got + ", due is " + want);
        }
    }

    private static void dueText(String what, String got, String want) {
        if (!got.equals(want)) {
            fault(what + " is " + got + ", due is " + want);
        }
    }

    private static void fault(String text) {
        wrong++;
        System.out.println("promise " + promise + ": " + text);
    }

    private static void dueThrow(String what, Class<?> type, Attempt attempt) {
        Class<?> got = null;
        try {
            attempt.make();
        } catch (RuntimeException e) {
            got = e.getClass();
        }
        if (got != type) {
            fault(what + " threw " + got + ", due is " + type);
        }
    }

    private static String printed(Bureau x, int what, int share) {
        int length = x.print(what, share);
        String text = x.text(length);
        due("the character behind the last", x.character(length), NONE);
        return text;
    }

    private static String levelOf(Bureau x) {
        return printed(x, 0, 0);
    }

    private static String divisorOf(Bureau x) {
        return printed(x, 1, 0);
    }

    private static String factorOf(Bureau x, int share) {
        return printed(x, 2, share);
    }

    private static void put(Bureau x, int share, int price, int count, int free) {
        due("set price", x.set(share, PRICE, price), 0);
        due("set count", x.set(share, COUNT, count), 0);
        due("set float", x.set(share, FLOAT, free), 0);
    }

    private static void dueShare(Bureau x, int share, int price, int count, int free) {
        due("price of " + share, x.get(share, PRICE), price);
        due("count of " + share, x.get(share, COUNT), count);
        due("float of " + share, x.get(share, FLOAT), free);
    }

    /** Shares 0, 1, .. worth these many, all members; the level is 10. */
    private static Bureau ofWorths(int... worths) {
        Bureau x = new Bureau();
        for (int s = 0; s < worths.length; s++) {
            put(x, s, worths[s], 1, 1);
        }
        x.base((1 << worths.length) - 1, 10);
        return x;
    }

    /** Share 0 alone is a member, the level is 10; share 1 is like it. */
    private static Bureau ofOne(int price, int count) {
        Bureau x = new Bureau();
        put(x, 0, price, count, 1);
        put(x, 1, price, count, 1);
        x.base(1, 10);
        return x;
    }

    /** Notes one event and closes: its outcome. */
    private static int after(Bureau x, int kind, int share, int a, int b, int c) {
        due("event", x.event(kind, share, a, b, c), 1);
        int done = x.close();
        int outcome = x.outcome(0);
        due("close", done, outcome == 0 ? 1 : 0);
        due("noted", x.noted(0), 0);
        due("outcome behind the last", x.outcome(1), NONE);
        return outcome;
    }

    /** An event that is not done: its outcome, and that all is as it was. */
    private static void dueRefused(Bureau x, int want, int kind, int share, int a, int b, int c) {
        String what = "event " + kind + " of " + share + " with " + a + " " + b + " " + c;
        String before = state(x);
        due(what, after(x, kind, share, a, b, c), want);
        dueText("the state behind " + what, state(x), before);
    }

    /** All that an event may change; of a long level and divisor not each character. */
    private static String state(Bureau x) {
        StringBuilder text = new StringBuilder();
        text.append(x.members());
        for (int s = 0; s < 8; s++) {
            text.append(' ').append(x.get(s, PRICE)).append(',').append(x.get(s, COUNT));
            text.append(',').append(x.get(s, FLOAT)).append(',').append(factorOf(x, s)).append(',').append(x.weight(s));
        }
        text.append(' ').append(x.level()).append(' ').append(x.places(0)).append(' ').append(x.places(1));
        for (int what = 0; what < 2; what++) {
            int length = x.print(what, 0);
            text.append(' ').append(length).append(' ').append(x.text(Math.min(length, 20)));
        }
        return text.toString();
    }

    private static void promise1() {
        promise = 1;
        Bureau x = new Bureau();
        for (int s = 0; s < 8; s++) {
            dueShare(x, s, 1, 1, 1);
            due("weight", x.weight(s), NONE);
        }
        due("members", x.members(), NONE);
        due("days", x.days(), NONE);
        due("level", x.level(), NONE);
        due("published", x.published(0), NONE);
        due("outcome", x.outcome(0), NONE);
        due("noted", x.noted(0), NONE);
        due("character", x.character(0), NONE);
        due("check", x.check(), NONE);
        due("places above", x.places(0), NONE);
        due("places below", x.places(1), NONE);
        due("event", x.event(0, 0, 1, 1, 1), NONE);
        due("NONE", NONE, -1);
    }

    private static void promise2() {
        promise = 2;
        Bureau x = new Bureau();
        int[] most = {9999999, 9999999, 100};
        for (int what = 0; what < 3; what++) {
            due("set to the most", x.set(7, what, most[what]), 0);
            due("get the most", x.get(7, what), most[what]);
            for (int v : new int[] {0, -1, most[what] + 1, MAX, MIN}) {
                due("set to " + v, x.set(7, what, v), NONE);
            }
            due("get what stayed", x.get(7, what), most[what]);
            due("set to the least", x.set(7, what, 1), 0);
            due("get the least", x.get(7, what), 1);
        }
        for (int s : new int[] {-1, 8, MAX, MIN}) {
            dueThrow("no such share", IndexOutOfBoundsException.class, () -> x.set(s, 0, 1));
            dueThrow("no such share nor what", IndexOutOfBoundsException.class, () -> x.set(s, 3, 1));
        }
        for (int what : new int[] {-1, 3, MAX, MIN}) {
            dueThrow("no such what", IllegalArgumentException.class, () -> x.set(0, what, 1));
        }
        setBetweenCloses();
    }

    private static void setBetweenCloses() {
        Bureau x = ofOne(100, 10);
        due("set the count of a member", x.set(0, COUNT, 20), NONE);
        due("set the float of a member", x.set(0, FLOAT, 20), NONE);
        dueShare(x, 0, 100, 10, 1);
        due("set the price of a member", x.set(0, PRICE, 123), 0);
        due("the level goes with the price", x.level(), 1230);
        dueText("the divisor stays", divisorOf(x), "100");
        put(x, 1, 7, 8, 9);
        dueShare(x, 1, 7, 8, 9);
        due("a share that is none changes alone", x.level(), 1230);
        due("leave and join", after(x, 5, 1, 0, 0, 0), 0);
        due("leave and join", after(x, 4, 0, 0, 0, 0), 0);
        due("set the count of one that left", x.set(0, COUNT, 20), 0);
        due("set the count of one that joined", x.set(1, COUNT, 20), NONE);
    }

    private static void promise3() {
        promise = 3;
        Bureau x = new Bureau();
        put(x, 3, 11, 22, 33);
        dueShare(x, 3, 11, 22, 33);
        dueShare(x, 2, 1, 1, 1);
        dueShare(x, 4, 1, 1, 1);
        for (int s : new int[] {-1, 8, MAX, MIN}) {
            dueThrow("no such share", IndexOutOfBoundsException.class, () -> x.get(s, 0));
            dueThrow("no such share nor what", IndexOutOfBoundsException.class, () -> x.get(s, -1));
        }
        for (int what : new int[] {-1, 3, MAX, MIN}) {
            dueThrow("no such what", IllegalArgumentException.class, () -> x.get(7, what));
        }
    }

    private static void promise4() {
        promise = 4;
        Bureau x = new Bureau();
        for (int members : new int[] {0, 256, 257, -1, MIN, MAX}) {
            dueThrow("members " + members, IllegalArgumentException.class, () -> x.base(members, 5));
        }
        for (int level : new int[] {0, -1, 1000001, MAX, MIN}) {
            dueThrow("level " + level, IllegalArgumentException.class, () -> x.base(1, level));
        }
        due("no index by what throws", x.members(), NONE);
        x.base(255, 1000000);
        due("level", x.level(), 100000000);
        dueText("divisor", divisorOf(x), "1/125000");
        x.base(128, 1);
        due("members", x.members(), 128);
        dueText("divisor", divisorOf(x), "1");
        baseAgain();
    }

    private static void baseAgain() {
        Bureau x = ofWorths(60, 30, 10);
        due("cap", after(x, 8, 0, 50, 0, 0), 0);
        due("leave", after(x, 4, 0, 0, 0, 0), 0);
        dueText("factor", factorOf(x, 0), "2/3");
        x.event(2, 1, 5, 0, 0);
        dueThrow("base", IllegalArgumentException.class, () -> x.base(0, 1));
        due("days stay by what throws", x.days(), 2);
        due("outcome stays by what throws", x.outcome(0), 0);
        due("what is noted stays by what throws", x.event(2, 1, 5, 0, 0), 2);
        dueText("printed", factorOf(x, 0), "2/3");
        x.base(6, 4);
        due("what was printed stays", x.character(1), '/');
        due("days", x.days(), 0);
        due("published", x.published(0), NONE);
        due("outcome", x.outcome(0), NONE);
        due("noted", x.noted(0), NONE);
        due("level", x.level(), 400);
        dueText("divisor", divisorOf(x), "10");
        dueText("the factor of one that had left", factorOf(x, 0), "1");
        due("close without events", x.close(), 0);
        due("price as before", x.get(1, PRICE), 30);
        due("day 0 is the first", x.published(0), 400);
    }

    private static void promise5() {
        promise = 5;
        Bureau x = new Bureau();
        due("members", x.members(), NONE);
        x.base(0b10100101, 5);
        due("members", x.members(), 0b10100101);
        due("join", after(x, 5, 6, 0, 0, 0), 0);
        due("leave", after(x, 4, 0, 0, 0, 0), 0);
        due("members", x.members(), 0b11100100);
    }

    private static void promise6() {
        promise = 6;
        Bureau x = new Bureau();
        due("no index", x.event(0, 0, 1, 1, 1), NONE);
        x.base(3, 5);
        for (int bad : new int[] {-1, 9, MAX, MIN}) {
            due("kind " + bad, x.event(bad, 0, 1, 1, 1), NONE);
        }
        for (int bad : new int[] {-1, 8, MAX, MIN}) {
            for (int kind = 0; kind < 9; kind++) {
                due("share " + bad, x.event(kind, bad, 1, 1, 1), NONE);
            }
        }
        for (int i = 0; i < 16; i++) {
            due("event " + i, x.event(i % 9, i % 8, MIN, MAX, -1), i + 1);
        }
        due("event 16", x.event(0, 0, 1, 1, 1), NONE);
        x.close();
        due("outcome of the last", x.outcome(15), 2);
        due("outcome behind the last", x.outcome(16), NONE);
        due("noted anew", x.event(0, 0, 1, 1, 1), 1);
        due("the outcomes stay till the next close", x.outcome(15), 2);
        x.base(3, 5);
        due("noted behind base", x.event(0, 0, 1, 1, 1), 1);
    }

    private static void splits() {
        Bureau x = ofOne(101, 10);
        due("two for one", after(x, 0, 0, 2, 1, 0), 0);
        dueShare(x, 0, 51, 20, 1);
        dueText("divisor", divisorOf(x), "102");
        dueText("level", levelOf(x), "10");
        due("one for four", after(x, 0, 0, 1, 4, 0), 0);
        dueShare(x, 0, 204, 5, 1);
        due("three for one", after(x, 0, 0, 1, 5, 0), 0);
        dueShare(x, 0, 1020, 1, 1);
        dueRefused(x, 1, 0, 0, 1, 2, 0);
        for (int bad : new int[] {0, -1, 1001, MAX, MIN}) {
            dueRefused(ofOne(1020, 1), 1, 0, 0, bad, 1, 0);
            dueRefused(ofOne(1020, 1), 1, 0, 0, 1, bad, 0);
            dueRefused(ofOne(1020, 1), 1, 0, 0, bad, bad, 0);
        }
        due("a thousand for a thousand", after(x, 0, 0, 1000, 1000, 0), 0);
        Bureau low = ofOne(499, 9999);
        dueRefused(low, 1, 0, 0, 1000, 1, 0);
        low.set(0, PRICE, 500);
        due("a price of a half", after(low, 0, 0, 1000, 1, 0), 0);
        dueShare(low, 0, 1, 9999000, 1);
        Bureau many = ofOne(500, 10000);
        dueRefused(many, 1, 0, 0, 1000, 1, 0);
        many.set(0, PRICE, 10000);
        dueRefused(many, 1, 0, 0, 1, 1000, 0);
        many.set(0, PRICE, 9999);
        due("a high price", after(many, 0, 0, 1, 1000, 0), 0);
        dueShare(many, 0, 9999000, 10, 1);
        due("one that is none", after(many, 0, 1, 3, 1, 0), 0);
        dueShare(many, 1, 167, 30000, 1);
        dueText("level", levelOf(many), "9999/50");
    }

    private static void rights() {
        Bureau x = ofOne(100, 10);
        due("one for two", after(x, 1, 0, 1, 2, 50), 0);
        dueShare(x, 0, 83, 15, 1);
        dueText("divisor", divisorOf(x), "249/2");
        dueText("level", levelOf(x), "10");
        due("a half", after(x, 1, 0, 1, 1, 82), 0);
        dueShare(x, 0, 83, 30, 1);
        due("at the price", after(x, 1, 0, 1, 7, 83), 0);
        due("above the price", after(x, 1, 0, 1000, 1000, 9999999), 0);
        dueShare(x, 0, 83, 30, 1);
        dueText("divisor", divisorOf(x), "249");
        dueRefused(x, 1, 1, 0, 1, 7, 82);
        for (int bad : new int[] {0, -1, 1001, MAX, MIN}) {
            dueRefused(ofOne(83, 30), 1, 1, 0, bad, 1, 9999999);
            dueRefused(ofOne(83, 30), 1, 1, 0, 1, bad, 9999999);
        }
        for (int bad : new int[] {0, -1, 10000000, MAX, MIN}) {
            dueRefused(ofOne(83, 30), 1, 1, 0, 1, 1, bad);
        }
        Bureau many = ofOne(2, 5000000);
        dueRefused(many, 1, 1, 0, 1, 1, 1);
        due("nothing is done", after(many, 1, 0, 1, 1, 2), 0);
    }

    private static void dividends() {
        for (int kind = 2; kind <= 3; kind++) {
            for (int bad : new int[] {0, -1, 100, 101, MAX, MIN}) {
                dueRefused(ofOne(100, 10), 1, kind, 0, bad, 0, 0);
            }
            Bureau x = ofOne(100, 10);
            due("dividend", after(x, kind, 0, 10, 0, 0), 0);
            due("price", x.get(0, PRICE), 90);
            dueText("divisor", divisorOf(x), kind == 2 ? "90" : "100");
            dueText("level", levelOf(x), kind == 2 ? "10" : "9");
            due("published", x.published(0), kind == 2 ? 1000 : 900);
            due("all but a cent", after(x, kind, 0, 89, 0, 0), 0);
            due("price", x.get(0, PRICE), 1);
            due("one that is none", after(x, kind, 1, 1, 0, 0), 0);
            due("price", x.get(1, PRICE), 99);
            dueText("divisor", divisorOf(x), kind == 2 ? "1" : "100");
            due("check", x.check(), 1);
        }
    }

    private static void comingAndGoing() {
        dueRefused(ofWorths(60, 30, 10), 2, 5, 2, 0, 0, 0);
        dueRefused(ofWorths(60, 30, 10), 2, 4, 3, 0, 0, 0);
        Bureau x = ofWorths(60, 30, 10);
        due("cap", after(x, 8, 0, 50, 0, 0), 0);
        due("leave", after(x, 4, 0, 0, 0, 0), 0);
        due("members", x.members(), 6);
        dueText("its factor stays", factorOf(x, 0), "2/3");
        dueText("divisor", divisorOf(x), "4");
        dueText("level", levelOf(x), "10");
        dueRefused(x, 2, 4, 0, 0, 0, 0);
        due("an event without it", after(x, 7, 1, 1, 0, 0), 0);
        due("an event of its own", after(x, 6, 0, 1, 0, 0), 0);
        dueText("its factor stays till it joins", factorOf(x, 0), "2/3");
        due("join", after(x, 5, 0, 0, 0, 0), 0);
        dueText("its factor", factorOf(x, 0), "1");
        dueText("level", levelOf(x), "10");
        dueText("divisor", divisorOf(x), "10");
        due("leave", after(x, 4, 0, 0, 0, 0), 0);
        due("leave", after(x, 4, 2, 0, 0, 0), 0);
        dueRefused(x, 2, 4, 1, 0, 0, 0);
        due("members", x.members(), 2);
    }

    private static void countsAndFloats() {
        int[] most = {9999999, 100};
        for (int kind = 6; kind <= 7; kind++) {
            int what = kind - 5;
            for (int bad : new int[] {0, -1, most[what - 1] + 1, MAX, MIN}) {
                dueRefused(ofOne(100, 1), 1, kind, 0, bad, 0, 0);
                dueRefused(ofOne(100, 1), 1, kind, 1, bad, 0, 0);
            }
            Bureau x = ofOne(100, 1);
            due("to the most", after(x, kind, 0, most[what - 1], 0, 0), 0);
            due("the most", x.get(0, what), most[what - 1]);
            dueText("level", levelOf(x), "10");
            dueText("divisor", divisorOf(x), kind == 6 ? "99999990" : "1000");
            due("one that is none", after(x, kind, 1, 7, 0, 0), 0);
            due("that one's", x.get(1, what), 7);
            due("to the least", after(x, kind, 0, 1, 0, 0), 0);
            dueText("divisor", divisorOf(x), "10");
        }
    }

    private static void caps() {
        for (int bad : new int[] {0, -1, 101, 24, MAX, MIN}) {
            dueRefused(ofWorths(50, 36, 8, 6), 2, 8, 0, bad, 0, 0);
        }
        Bureau x = ofWorths(50, 36, 8, 6);
        due("a cap that makes a second one large", after(x, 8, 7, 40, 0, 0), 0);
        dueText("factor", factorOf(x, 0), "14/25");
        dueText("factor", factorOf(x, 1), "7/9");
        dueText("factor", factorOf(x, 2), "1");
        due("weight", x.weight(0), 400000000);
        due("weight", x.weight(1), 400000000);
        due("weight", x.weight(2), 114285714);
        due("weight", x.weight(3), 85714285);
        dueText("level", levelOf(x), "10");
        dueText("divisor", divisorOf(x), "7");
        due("the factors of a cap go with the next", after(x, 8, 0, 50, 0, 0), 0);
        dueText("a member worth just the cap is not large", factorOf(x, 0), "1");
        dueText("factor", factorOf(x, 1), "1");
        due("the tightest cap", after(x, 8, 0, 25, 0, 0), 0);
        for (int s = 0; s < 4; s++) {
            due("weight", x.weight(s), 250000000);
        }
        dueText("factor", factorOf(x, 3), "1");
        dueText("factor", factorOf(x, 0), "3/25");
        due("no cap at all", after(x, 8, 0, 100, 0, 0), 0);
        dueText("divisor", divisorOf(x), "10");
        due("check", x.check(), 1);
        Bureau one = ofOne(5, 5);
        dueRefused(one, 2, 8, 0, 99, 0, 0);
        due("a cap of one member", after(one, 8, 1, 100, 0, 0), 0);
        Bureau three = ofWorths(5, 5, 6);
        dueRefused(three, 2, 8, 0, 33, 0, 0);
        due("a cap of three", after(three, 8, 0, 34, 0, 0), 0);
        dueText("factor", factorOf(three, 2), "85/99");
    }

    /** Shares 0 and 1 are members; share 2 was capped, and has left with the factor 2/15. */
    private static Bureau ofOneLeft() {
        Bureau x = ofWorths(1, 7, 60);
        due("cap", after(x, 8, 0, 50, 0, 0), 0);
        due("leave", after(x, 4, 2, 0, 0, 0), 0);
        dueText("the factor of one that has left", factorOf(x, 2), "2/15");
        return x;
    }

    private static void capsBehindLeaving() {
        for (int bad : new int[] {0, 49, 101}) {
            dueRefused(ofOneLeft(), 2, 8, 2, bad, 0, 0);
        }
        Bureau x = ofOneLeft();
        due("cap with a large one", after(x, 8, 2, 50, 0, 0), 0);
        dueText("the factor of a large one", factorOf(x, 1), "1/7");
        dueText("the factor of one that is not large", factorOf(x, 0), "1");
        dueText("the factor of one that has left", factorOf(x, 2), "1");
        dueText("level", levelOf(x), "10");
        dueText("divisor", divisorOf(x), "1/5");
        due("check", x.check(), 1);
        Bureau none = ofOneLeft();
        due("cap without a large one", after(none, 8, 0, 100, 0, 0), 0);
        dueText("the factor of one that has left", factorOf(none, 2), "1");
        Bureau once = ofWorths(1, 7, 60);
        due("cap", after(once, 8, 0, 50, 0, 0), 0);
        due("a cap noted", once.event(8, 0, 90, 0, 0), 1);
        due("and one that leaves before it", once.event(4, 2, 0, 0, 0), 2);
        due("close", once.close(), 2);
        dueText("the factor of one that left at the same close", factorOf(once, 2), "1");
    }

    /** Each close divides the divisor by one worth and multiplies it by another, with little in common. */
    private static void makeDivisorLong(Bureau x) {
        for (int i = 0; i < 40; i++) {
            x.set(0, PRICE, 9999999 - 2 * i);
            x.event(2, 0, 4999999 + 3 * i, 0, 0);
            x.close();
            due("above", x.places(0) <= 512 ? 1 : 0, 1);
            due("below", x.places(1) <= 512 ? 1 : 0, 1);
            if (x.outcome(0) == 3) {
                return;
            }
        }
        fault("the divisor is never too long");
    }

    private static Bureau ofLong() {
        Bureau x = ofWorths(1, 7);
        makeDivisorLong(x);
        dueText("above or below", x.places(0) > 480 || x.places(1) > 480 ? "long" : "short", "long");
        return x;
    }

    private static void tooLong() {
        dueRefused(ofLong(), 3, 2, 0, 4999998, 0, 0);
        dueRefused(ofLong(), 3, 6, 0, 9999991, 0, 0);
        dueRefused(ofLong(), 1, 6, 0, 10000000, 0, 0);
        dueRefused(ofLong(), 2, 5, 0, 0, 0, 0);
        dueRefused(ofLong(), 3, 8, 0, 50, 0, 0);
        Bureau joining = ofLong();
        put(joining, 2, 9999991, 9999973, 97);
        dueRefused(joining, 3, 5, 2, 0, 0, 0);
        Bureau x = ofLong();
        due("a share that is none", after(x, 2, 2, 1, 0, 0), 1);
        due("one that leaves the divisor", after(x, 3, 0, 1, 0, 0), 0);
        due("rights of which nothing is done", after(x, 1, 0, 1, 1, 9999999), 0);
        due("check", x.check(), 1);
        Bureau left = ofOneLeft();
        makeDivisorLong(left);
        dueRefused(left, 3, 8, 0, 50, 0, 0);
        dueText("the factor of one that has left", factorOf(left, 2), "2/15");
    }

    private static void orderOfClose() {
        Bureau x = ofWorths(100, 100);
        int[][] events = {{8, 0, 60}, {6, 1, 3}, {6, 0, 2}, {6, 1, 4}, {2, 1, 50}, {5, 2, 0}, {4, 1, 0}, {2, 0, 50}};
        for (int i = 0; i < events.length; i++) {
            due("event", x.event(events[i][0], events[i][1], events[i][2], 1, 1), i + 1);
        }
        due("close", x.close(), 8);
        int[] order = {7, 4, 6, 5, 2, 1, 3, 0};
        for (int i = 0; i < order.length; i++) {
            due("noted(" + i + ")", x.noted(i), order[i]);
            due("outcome(" + i + ")", x.outcome(i), 0);
        }
        dueShare(x, 1, 50, 4, 1);
        dueShare(x, 0, 50, 2, 1);
        due("members", x.members(), 5);
        due("weight", x.weight(2), 400000000);
    }

    private static void promise7() {
        promise = 7;
        Bureau none = new Bureau();
        dueThrow("no index", IllegalStateException.class, none::close);
        splits();
        rights();
        dividends();
        comingAndGoing();
        countsAndFloats();
        caps();
        capsBehindLeaving();
        tooLong();
        orderOfClose();
        allDays();
    }

    private static void allDays() {
        Bureau x = ofOne(100, 10);
        for (int day = 0; day < 250; day++) {
            due("close", x.close(), 0);
        }
        x.event(2, 0, 10, 0, 0);
        dueThrow("250 days are noted", IllegalStateException.class, x::close);
        due("days", x.days(), 250);
        due("the event still waits", x.event(2, 0, 10, 0, 0), 2);
        due("price", x.get(0, PRICE), 100);
        due("published", x.published(249), 1000);
        due("published", x.published(250), NONE);
        x.base(1, 20);
        due("close behind base", x.close(), 0);
        due("published", x.published(0), 2000);
    }

    private static void promise8And9() {
        promise = 8;
        Bureau x = ofOne(100, 10);
        due("no close yet", x.outcome(0), NONE);
        x.event(4, 0, 0, 0, 0);
        due("only noted", x.outcome(0), NONE);
        x.event(2, 0, 100, 0, 0);
        x.event(2, 0, 99, 0, 0);
        due("close", x.close(), 1);
        int[] outcomes = {1, 0, 2};
        int[] places = {1, 2, 0};
        for (int i = 0; i < 3; i++) {
            promise = 8;
            due("outcome", x.outcome(i), outcomes[i]);
            promise = 9;
            due("noted", x.noted(i), places[i]);
        }
        for (int bad : new int[] {-1, 3, 16, MAX, MIN}) {
            promise = 8;
            due("outcome(" + bad + ")", x.outcome(bad), NONE);
            promise = 9;
            due("noted(" + bad + ")", x.noted(bad), NONE);
        }
        x.close();
        due("noted of an empty close", x.noted(0), NONE);
        promise = 8;
        due("outcome of an empty close", x.outcome(0), NONE);
    }

    private static void promise10And11() {
        promise = 10;
        Bureau x = new Bureau();
        due("days", x.days(), NONE);
        put(x, 0, 3, 1, 1);
        x.base(1, 1);
        due("days", x.days(), 0);
        x.close();
        x.set(0, PRICE, 4);
        x.close();
        due("days", x.days(), 2);
        promise = 11;
        due("published", x.published(0), 100);
        due("published", x.published(1), 133);
        for (int bad : new int[] {-1, 2, 250, MAX, MIN}) {
            due("published(" + bad + ")", x.published(bad), NONE);
        }
    }

    private static void promise12() {
        promise = 12;
        Bureau x = ofOne(8, 25);
        due("level", x.level(), 1000);
        x.set(0, PRICE, 9);
        due("level", x.level(), 1125);
        Bureau y = ofOne(4000, 1);
        y.set(0, PRICE, 4001);
        due("a quarter goes down", y.level(), 1000);
        y.set(0, PRICE, 4002);
        due("a half goes up", y.level(), 1001);
        y.set(0, PRICE, 4003);
        due("three quarters go up", y.level(), 1001);
        y.set(0, PRICE, 1);
        due("a quarter of a hundredth", y.level(), 0);
        Bureau z = new Bureau();
        z.base(1, 1000000);
        z.set(0, PRICE, 9999999);
        due("a great level", z.level(), 999999900000000L);
        for (int i = 0; i < 3; i++) {
            due("special dividend", after(z, 2, 0, 9999998, 0, 0), 0);
            z.set(0, PRICE, 9999999);
        }
        due("a level of more than is published", z.level(), 999999999999999999L);
        z.close();
        due("the same, noted", z.published(3), 999999999999999999L);
    }

    private static void promise13() {
        promise = 13;
        Bureau x = ofWorths(1, 1, 1);
        due("a third", x.weight(0), 333333333);
        for (int bad : new int[] {-1, 3, 7, 8, 32, MAX, MIN}) {
            due("weight(" + bad + ")", x.weight(bad), NONE);
        }
        due("weight without an index", new Bureau().weight(0), NONE);
        due("all", ofOne(7, 7).weight(0), 1000000000);
        x.set(0, PRICE, 9999999);
        due("with its price", x.weight(0), 999999800);
        due("with another's price", x.weight(1), 99);
    }

    private static void promise14And15() {
        promise = 14;
        Bureau x = new Bureau();
        for (int what = 0; what < 3; what++) {
            due("without an index", x.print(what, 0), NONE);
        }
        put(x, 0, 6, 1, 1);
        x.base(1, 4);
        dueText("divisor", divisorOf(x), "3/2");
        dueText("level", levelOf(x), "4");
        x.set(0, PRICE, 1000000);
        dueText("a level with zeros", levelOf(x), "2000000/3");
        due("length", x.print(0, 0), 9);
        for (int bad : new int[] {-1, 3, MAX, MIN}) {
            due("what " + bad, x.print(bad, 0), NONE);
        }
        for (int bad : new int[] {-1, 8, MAX, MIN}) {
            due("share " + bad, x.print(2, bad), NONE);
        }
        promise = 15;
        due("what was printed stays", x.character(0), '2');
        due("what was printed stays", x.character(7), '/');
        due("what was printed stays", x.character(8), '3');
        for (int bad : new int[] {-1, 9, MAX, MIN}) {
            due("character(" + bad + ")", x.character(bad), NONE);
        }
        promise = 14;
        due("the share is of no matter", x.print(1, -1), 3);
        due("the share is of no matter", x.print(0, 8), 9);
        due("one that is no member", x.print(2, 5), 1);
    }

    private static void promise16() {
        promise = 16;
        Bureau x = ofOne(6, 1);
        due("above: 3", x.places(0), 2);
        due("below: 5", x.places(1), 3);
        for (int bad : new int[] {-1, 2, MAX, MIN}) {
            due("places(" + bad + ")", x.places(bad), NONE);
        }
        Bureau great = ofOne(9999999, 9999999);
        due("above", great.places(0), 47);
        due("below", great.places(1), 4);
        due("count to one", after(great, 6, 0, 1, 0, 0), 0);
        due("above", great.places(0), 24);
    }

    private static void promise17() {
        promise = 17;
        due("without an index", new Bureau().check(), NONE);
        Bureau x = ofWorths(60, 30, 10);
        due("behind base", x.check(), 1);
        due("cap", after(x, 8, 0, 34, 0, 0), 0);
        due("behind a cap", x.check(), 1);
        due("ordinary", after(x, 3, 0, 7, 0, 0), 0);
        due("behind an ordinary dividend", x.check(), 1);
        due("refused", after(x, 8, 0, 33, 0, 0), 2);
        due("behind what is not done", x.check(), 1);
    }

    public static void main(String[] args) {
        promise1();
        promise2();
        promise3();
        promise4();
        promise5();
        promise6();
        promise7();
        promise8And9();
        promise10And11();
        promise12();
        promise13();
        promise14And15();
        promise16();
        promise17();
        System.out.println(wrong == 0 ? "all promises are kept" : wrong + " answers are not as due");
        if (wrong != 0) {
            System.exit(1);
        }
    }
}
