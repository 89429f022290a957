import java.math.BigInteger;
import java.util.ArrayList;
import java.util.Comparator;
import java.util.List;
import java.util.Random;

/**
 * Runs of calls drawn from fixed seeds, each answered by the program and by a plain model of the
 * document over BigInteger; every answer must be the same.
 */
public final class ModelTest {
    private static final int RUNS = 3000;
    private static final int LONG_RUNS = 40;
    private static final int MOST_CALLS = 512;

    private static final int CLOSE = 5;
    private static final int LEVEL = 10;
    private static final int WEIGHT = 11;
    private static final int PRINT = 12;
    private static final int CHARACTER = 13;
    private static final int CHECK = 15;

    /** A fraction in least terms. */
    private record Ratio(BigInteger up, BigInteger down) {
        static Ratio of(BigInteger up, BigInteger down) {
            BigInteger g = up.gcd(down);
            return new Ratio(up.divide(g), down.divide(g));
        }

        static Ratio of(long v) {
            return new Ratio(BigInteger.valueOf(v), BigInteger.ONE);
        }

        Ratio plus(Ratio o) {
            return of(up.multiply(o.down).add(o.up.multiply(down)), down.multiply(o.down));
        }

        Ratio times(Ratio o) {
            return of(up.multiply(o.up), down.multiply(o.down));
        }

        Ratio over(Ratio o) {
            return of(up.multiply(o.down), down.multiply(o.up));
        }

        boolean moreThan(Ratio o) {
            return up.multiply(o.down).compareTo(o.up.multiply(down)) > 0;
        }

        BigInteger floor() {
            return up.divide(down);
        }

        boolean isWhole() {
            return down.equals(BigInteger.ONE);
        }

        BigInteger rounded() {
            return plus(new Ratio(BigInteger.ONE, BigInteger.TWO)).floor();
        }

        String text() {
            return isWhole() ? up.toString() : up + "/" + down;
        }
    }

    private record Noted(int place, int kind, int share, int a, int b, int c) { }

    /** A share as it is; events make a new one. */
    private record Share(int price, int count, int free, Ratio factor, boolean member) {
        Ratio plain() {
            return Ratio.of((long) price * count * free);
        }

        Ratio worth() {
            return plain().times(factor);
        }

        Share withFactor(Ratio f) {
            return new Share(price, count, free, f, member);
        }

        Share withMember(boolean m) {
            return new Share(price, count, free, factor, m);
        }

        Share with(int what, int v) {
            return new Share(what == 0 ? v : price, what == 1 ? v : count, what == 2 ? v : free, factor, member);
        }

        int get(int what) {
            return what == 0 ? price : what == 1 ? count : free;
        }
    }

    private static final class Model {
        private static final Ratio ONE = Ratio.of(1);
        private static final Ratio HUNDRED = Ratio.of(100);
        private static final BigInteger MOST = BigInteger.TEN.pow(18).subtract(BigInteger.ONE);

        Share[] shares = new Share[8];
        boolean based;
        Ratio divisor;
        List<Noted> noted = new ArrayList<>();
        List<Noted> done = new ArrayList<>();
        List<Integer> outcomes = new ArrayList<>();
        List<Long> days = new ArrayList<>();
        String printed = "";

        Model() {
            for (int s = 0; s < 8; s++) {
                shares[s] = new Share(1, 1, 1, ONE, false);
            }
        }

        static boolean inBounds(int what, BigInteger v) {
            return v.signum() > 0 && v.compareTo(BigInteger.valueOf(what == 2 ? 100 : 9999999)) <= 0;
        }

        static boolean inBounds(int what, long v) {
            return inBounds(what, BigInteger.valueOf(v));
        }

        long set(int share, int what, int v) {
            if (share < 0 || share > 7) {
                throw new IndexOutOfBoundsException();
            }
            if (what < 0 || what > 2) {
                throw new IllegalArgumentException();
            }
            if (what != 0 && shares[share].member() || !inBounds(what, v)) {
                return -1;
            }
            shares[share] = shares[share].with(what, v);
            return 0;
        }

        long get(int share, int what) {
            if (share < 0 || share > 7) {
                throw new IndexOutOfBoundsException();
            }
            if (what < 0 || what > 2) {
                throw new IllegalArgumentException();
            }
            return shares[share].get(what);
        }

        long base(int members, int level) {
            if (members == 0 || (members & ~255) != 0 || level < 1 || level > 1000000) {
                throw new IllegalArgumentException();
            }
            for (int s = 0; s < 8; s++) {
                shares[s] = shares[s].withFactor(ONE).withMember((members & 1 << s) != 0);
            }
            based = true;
            divisor = all(shares).over(Ratio.of(level));
            noted.clear();
            done.clear();
            outcomes.clear();
            days.clear();
            return 0;
        }

        static Ratio all(Share[] shares) {
            Ratio sum = Ratio.of(0);
            for (Share s : shares) {
                sum = s.member() ? sum.plus(s.worth()) : sum;
            }
            return sum;
        }

        long members() {
            if (!based) {
                return -1;
            }
            int bits = 0;
            for (int s = 0; s < 8; s++) {
                bits |= shares[s].member() ? 1 << s : 0;
            }
            return bits;
        }

        long event(int kind, int share, int a, int b, int c) {
            if (!based || noted.size() == 16 || kind < 0 || kind > 8 || share < 0 || share > 7) {
                return -1;
            }
            noted.add(new Noted(noted.size(), kind, share, a, b, c));
            return noted.size();
        }

        long close() {
            if (!based || days.size() == 250) {
                throw new IllegalStateException();
            }
            done = new ArrayList<>(noted);
            done.sort(Comparator.comparingInt(Noted::kind).thenComparingInt(Noted::share)
                    .thenComparingInt(Noted::place));
            noted.clear();
            outcomes.clear();
            for (Noted e : done) {
                outcomes.add(perform(e));
            }
            days.add(level());
            return outcomes.stream().filter(o -> o == 0).count();
        }

        int perform(Noted e) {
            Share[] next = shares.clone();
            int outcome = change(e, next);
            if (outcome != 0) {
                return outcome;
            }
            boolean moves = e.kind() == 4 || e.kind() == 5 || e.kind() == 8 || shares[e.share()].member();
            if (moves && e.kind() != 3) {
                Ratio d = divisor.times(all(next)).over(all(shares));
                if (d.up().bitLength() > 512 || d.down().bitLength() > 512) {
                    return 3;
                }
                divisor = d;
            }
            shares = next;
            return 0;
        }

        static int change(Noted e, Share[] next) {
            int s = e.share();
            Share old = next[s];
            boolean ratio = e.a() >= 1 && e.a() <= 1000 && e.b() >= 1 && e.b() <= 1000;
            Ratio a = Ratio.of(e.a());
            Ratio b = Ratio.of(e.b());
            Ratio price = Ratio.of(old.price());
            Ratio count = Ratio.of(old.count());
            switch (e.kind()) {
                case 0:
                    return ratio ? exchange(next, s, count.times(a).over(b), price.times(b).over(a)) : 1;
                case 1:
                    if (!ratio || !inBounds(0, e.c())) {
                        return 1;
                    }
                    if (e.c() >= old.price()) {
                        return 0;
                    }
                    return exchange(next, s, count.times(a.plus(b)).over(b),
                            price.times(b).plus(Ratio.of(e.c()).times(a)).over(a.plus(b)));
                case 2:
                case 3:
                    if (e.a() < 1 || !inBounds(0, (long) old.price() - e.a())) {
                        return 1;
                    }
                    next[s] = old.with(0, old.price() - e.a());
                    return 0;
                case 4:
                    long others = 0;
                    for (int t = 0; t < 8; t++) {
                        others += t != s && next[t].member() ? 1 : 0;
                    }
                    next[s] = old.withMember(false);
                    return old.member() && others > 0 ? 0 : 2;
                case 5:
                    next[s] = old.withMember(true).withFactor(ONE);
                    return old.member() ? 2 : 0;
                case 6:
                case 7:
                    next[s] = old.with(e.kind() - 5, e.a());
                    return inBounds(e.kind() - 5, e.a()) ? 0 : 1;
                default:
                    return cap(next, e.a());
            }
        }

        static int exchange(Share[] next, int s, Ratio count, Ratio price) {
            BigInteger rounded = price.rounded();
            if (!count.isWhole() || !inBounds(1, count.up()) || !inBounds(0, rounded)) {
                return 1;
            }
            next[s] = next[s].with(1, count.up().intValue()).with(0, rounded.intValue());
            return 0;
        }

        static int cap(Share[] next, int a) {
            int members = 0;
            for (Share s : next) {
                members += s.member() ? 1 : 0;
            }
            if (a < 1 || a > 100 || a * members < 100) {
                return 2;
            }
            for (int s = 0; s < 8; s++) {
                next[s] = next[s].withFactor(ONE);
            }
            // One at a time, the greatest first: the document makes all that are too great large at
            // once, which must come to the same.
            List<Integer> order = new ArrayList<>(List.of(0, 1, 2, 3, 4, 5, 6, 7));
            order.removeIf(s -> !next[s].member());
            order.sort((x, y) -> next[y].plain().up().compareTo(next[x].plain().up()));
            Ratio others = all(next);
            int large = 0;
            while (large < members) {
                Ratio each = Ratio.of(a).times(others).over(Ratio.of(100 - (long) a * large));
                Share greatest = next[order.get(large)];
                if (!greatest.plain().moreThan(each)) {
                    break;
                }
                others = others.plus(new Ratio(greatest.plain().up().negate(), BigInteger.ONE));
                large++;
            }
            for (int i = 0; i < large; i++) {
                Ratio each = Ratio.of(a).times(others).over(Ratio.of(100 - (long) a * large));
                int s = order.get(i);
                next[s] = next[s].withFactor(each.over(next[s].plain()));
            }
            return 0;
        }

        long outcome(int i) {
            return i < 0 || i >= outcomes.size() ? -1 : outcomes.get(i);
        }

        long noted(int i) {
            return i < 0 || i >= done.size() ? -1 : done.get(i).place();
        }

        long days() {
            return based ? days.size() : -1;
        }

        long published(int day) {
            return day < 0 || day >= days.size() ? -1 : days.get(day);
        }

        long level() {
            if (!based) {
                return -1;
            }
            return all(shares).over(divisor).times(HUNDRED).rounded().min(MOST).longValueExact();
        }

        long weight(int share) {
            if (share < 0 || share > 7 || !shares[share].member()) {
                return -1;
            }
            return shares[share].worth().over(all(shares)).times(Ratio.of(1000000000)).floor().longValueExact();
        }

        long print(int what, int share) {
            if (!based || what < 0 || what > 2 || what == 2 && (share < 0 || share > 7)) {
                return -1;
            }
            Ratio r = what == 0 ? all(shares).over(divisor) : what == 1 ? divisor : shares[share].factor();
            printed = r.text();
            return printed.length();
        }

        long character(int i) {
            return i < 0 || i >= printed.length() ? -1 : printed.charAt(i);
        }

        long places(int what) {
            if (!based || what < 0 || what > 1) {
                return -1;
            }
            return (what == 0 ? divisor.up() : divisor.down()).bitLength();
        }

        long check() {
            return based ? 1 : -1;
        }
    }

    /** One call, by its number in the face and its arguments. */
    private record Call(int method, int a, int b, int c, int d, int e) {
        private static final String[] NAMES = {"set", "get", "base", "members", "event", "close", "outcome", "noted",
            "days", "published", "level", "weight", "print", "character", "places", "check"};

        long onProgram(IndexBureau x) {
            switch (method) {
                case 0: return x.set(a, b, c);
                case 1: return x.get(a, b);
                case 2: x.base(a, b); return 0;
                case 3: return x.members();
                case 4: return x.event(a, b, c, d, e);
                case 5: return x.close();
                case 6: return x.outcome(a);
                case 7: return x.noted(a);
                case 8: return x.days();
                case 9: return x.published(a);
                case 10: return x.level();
                case 11: return x.weight(a);
                case 12: return x.print(a, b);
                case 13: return x.character(a);
                case 14: return x.places(a);
                default: return x.check();
            }
        }

        long onModel(Model x) {
            switch (method) {
                case 0: return x.set(a, b, c);
                case 1: return x.get(a, b);
                case 2: return x.base(a, b);
                case 3: return x.members();
                case 4: return x.event(a, b, c, d, e);
                case 5: return x.close();
                case 6: return x.outcome(a);
                case 7: return x.noted(a);
                case 8: return x.days();
                case 9: return x.published(a);
                case 10: return x.level();
                case 11: return x.weight(a);
                case 12: return x.print(a, b);
                case 13: return x.character(a);
                case 14: return x.places(a);
                default: return x.check();
            }
        }

        String text() {
            return NAMES[method] + "(" + a + ", " + b + ", " + c + ", " + d + ", " + e + ")";
        }
    }

    /** Draws calls; each run has a manner of its own, so that some go deep and some go wrong often. */
    private static final class Drawer {
        private final Random random;
        private final int wrongInHundred;
        private final int capInHundred;
        private final int greatInHundred;
        private final int closeInHundred;
        /** All shares are members, all numbers great and caps low: the numbers inside grow longest. */
        private final boolean wide;

        Drawer(long seed) {
            random = new Random(seed);
            wide = random.nextInt(4) == 0;
            wrongInHundred = wide ? 0 : random.nextInt(3) * 6;
            capInHundred = random.nextInt(4) * 12;
            greatInHundred = wide ? 100 : random.nextInt(5) * 25;
            closeInHundred = 5 + random.nextInt(20);
        }

        boolean chance(int inHundred) {
            return random.nextInt(100) < inHundred;
        }

        int odd() {
            int[] values = {-1, 0, 1, 8, 9, 16, 100, 101, 250, 256, 1000, 1001, 9999999, 10000000,
                Integer.MAX_VALUE, Integer.MIN_VALUE};
            return values[random.nextInt(values.length)];
        }

        int share() {
            return chance(wrongInHundred) ? odd() : random.nextInt(8);
        }

        int amount(int most) {
            if (chance(wrongInHundred)) {
                return odd();
            }
            int within = chance(greatInHundred) ? most : Math.min(most, 40);
            return 1 + random.nextInt(within);
        }

        int value(int what) {
            return amount(what == 2 ? 100 : 9999999);
        }

        Call set() {
            int what = chance(wrongInHundred) ? odd() : random.nextInt(3);
            return new Call(0, share(), what, value(what), 0, 0);
        }

        Call base() {
            int members = wide ? 255 : chance(wrongInHundred) ? odd() : 1 + random.nextInt(255);
            return new Call(2, members, amount(1000000), 0, 0, 0);
        }

        Call event() {
            if (chance(capInHundred)) {
                int most = chance(wrongInHundred) ? odd() : 12 + random.nextInt(wide ? 4 : 60);
                return new Call(4, 8, share(), most, 0, 0);
            }
            int kind = chance(wrongInHundred) ? odd() : random.nextInt(9);
            int most = kind <= 1 ? (chance(70) ? 6 : 1000) : kind == 7 || kind == 8 ? 100 : 9999999;
            int b = chance(60) ? 1 : amount(chance(50) ? 6 : 1000);
            return new Call(4, kind, share(), amount(most), b, amount(9999999));
        }

        Call question() {
            int method = new int[] {1, 3, 6, 7, 8, 9, 10, 11, 12, 13, 14, 15}[random.nextInt(12)];
            int a = method == 1 || method == 11 ? share()
                    : method == 12 || method == 14 ? (chance(wrongInHundred) ? odd() : random.nextInt(3))
                    : chance(wrongInHundred) ? odd()
                    : random.nextInt(method == 13 ? (chance(50) ? 20 : 620) : 18);
            int b = method == 1 ? (chance(wrongInHundred) ? odd() : random.nextInt(3)) : share();
            return new Call(method, a, b, 0, 0, 0);
        }

        Call next(int i) {
            if (i < 24 && chance(80)) {
                return set();
            }
            if (i == 24 || random.nextInt(400) == 0) {
                return base();
            }
            if (chance(closeInHundred)) {
                return new Call(5, 0, 0, 0, 0, 0);
            }
            int part = random.nextInt(100);
            return part < 40 ? event() : part < 55 ? set() : question();
        }
    }

    /** The program and the model, both asked the same; no object is asked more often than is promised. */
    private static final class Both {
        private final String run;
        private final IndexBureau program = new IndexBureau();
        private final Model model = new Model();
        private int calls = 0;
        private boolean agree = true;

        Both(String run) {
            this.run = run;
        }

        /** Whether they have agreed so far, and may be asked more. */
        boolean goOn() {
            return agree && calls < MOST_CALLS;
        }

        void ask(Call call) {
            if (!goOn()) {
                return;
            }
            calls++;
            String got = onProgram(call);
            String due = onModel(call);
            if (!got.equals(due)) {
                agree = false;
                System.out.println(run + ", call " + calls + ": " + call.text() + " answered " + got
                        + ", due is " + due);
            } else if (call.method() == CLOSE) {
                model.outcomes.forEach(o -> OUTCOMES_SEEN[o]++);
            }
        }

        private String onProgram(Call call) {
            try {
                return Long.toString(call.onProgram(program));
            } catch (RuntimeException e) {
                return "throws." + e.getClass().getSimpleName();
            }
        }

        private String onModel(Call call) {
            try {
                return Long.toString(call.onModel(model));
            } catch (RuntimeException e) {
                return "throws." + e.getClass().getSimpleName();
            }
        }

        private void ask(int method, int a, int b) {
            ask(new Call(method, a, b, 0, 0, 0));
        }

        /** All that can be asked, as far as calls are left: so it begins elsewhere each time. */
        void lookAround(int first) {
            ask(CHECK, 0, 0);
            ask(LEVEL, 0, 0);
            for (int s = 0; s < 8; s++) {
                ask(WEIGHT, s, 0);
            }
            for (int i = 0; i < 10 && goOn(); i++) {
                int at = Math.floorMod(first + i, 10);
                lookAtPrint(Math.min(at, 2), Math.max(at - 2, 0));
            }
        }

        private void lookAtPrint(int what, int share) {
            ask(PRINT, what, share);
            longest = Math.max(longest, model.printed.length());
            for (int i = 0; i <= model.printed.length() && goOn(); i++) {
                ask(CHARACTER, i, 0);
            }
        }
    }

    private static final int[] OUTCOMES_SEEN = new int[4];
    private static int longest = 0;

    private static boolean runAgrees(int seed) {
        Drawer drawer = new Drawer(seed);
        Both both = new Both("seed " + seed);
        // Some runs are short, so that calls are left to look around behind them.
        int length = seed % 2 == 0 ? MOST_CALLS : 30 + drawer.random.nextInt(200);
        for (int i = 0; i < length && both.goOn(); i++) {
            both.ask(drawer.next(i));
        }
        both.lookAround(seed / 2);
        return both.agree;
    }

    /** A divisor as long as it may be, and behind it a cap whose factors have nothing in common with the prices. */
    private static List<Call> longRun(int seed) {
        Random random = new Random(seed);
        List<Call> calls = new ArrayList<>();
        for (int s = 0; s < 8; s++) {
            calls.add(new Call(0, s, 0, 9999999 - random.nextInt(1000), 0, 0));
            calls.add(new Call(0, s, 1, s == 7 ? 9000000 : 9999999 - random.nextInt(1000), 0, 0));
            calls.add(new Call(0, s, 2, s == 7 ? 49 : 97, 0, 0));
        }
        calls.add(new Call(2, 255, 999983, 0, 0, 0));
        for (int round = 0; round < 7 + seed % 4; round++) {
            calls.add(new Call(0, round % 8, 0, 9999999 - random.nextInt(1000), 0, 0));
            calls.add(new Call(4, 6, (round + 3) % 8, 9999999 - random.nextInt(1000), 0, 0));
            calls.add(new Call(5, 0, 0, 0, 0, 0));
        }
        for (int most = 13; most > 11; most--) {
            calls.add(new Call(4, 8, 0, most, 0, 0));
            calls.add(new Call(5, 0, 0, 0, 0, 0));
        }
        for (int s = 0; s < 8; s++) {
            calls.add(new Call(0, s, 0, 9999999 - random.nextInt(1000), 0, 0));
            calls.add(new Call(5, 0, 0, 0, 0, 0));
        }
        for (int kind = 0; kind < 9; kind++) {
            calls.add(new Call(4, kind, 3, kind == 0 ? 1 : 20, 1, 9999));
            calls.add(new Call(5, 0, 0, 0, 0, 0));
        }
        return calls;
    }

    /** Looks around behind each close, on a new object each time. */
    private static boolean longRunAgrees(int seed) {
        List<Call> calls = longRun(seed);
        boolean agree = true;
        for (int end = 1; end <= calls.size() && agree; end++) {
            if (calls.get(end - 1).method() == CLOSE) {
                Both both = new Both("long run " + seed + " of " + end);
                calls.subList(0, end).forEach(both::ask);
                both.lookAround(seed + end);
                agree = both.agree;
            }
        }
        return agree;
    }

    public static void main(String[] args) {
        int wrong = 0;
        for (int seed = 0; seed < RUNS && wrong < 20; seed++) {
            wrong += runAgrees(seed) ? 0 : 1;
        }
        for (int seed = 0; seed < LONG_RUNS && wrong < 20; seed++) {
            wrong += longRunAgrees(seed) ? 0 : 1;
        }
        for (int o = 0; o < OUTCOMES_SEEN.length; o++) {
            System.out.println("events with outcome " + o + ": " + OUTCOMES_SEEN[o]);
            // A test that never sees an outcome says nothing about it.
            wrong += OUTCOMES_SEEN[o] == 0 ? 1 : 0;
        }
        System.out.println("the longest fraction: " + longest + " characters");
        System.out.println(wrong == 0 ? "program and model agree" : wrong + " runs are wrong");
        if (wrong != 0) {
            System.exit(1);
        }
    }
}
