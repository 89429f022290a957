import java.util.Arrays;

/**
 * A share index, exactly: its level is what its members are worth over a divisor, and what changes
 * its composition at the close of a day changes the divisor so that the level stays.
 *
 * <p>All rows are made with the object and used again, so that no call makes anything new.
 */
public final class IndexBureau {
    public static final int NONE = -1;

    private static final int MOST_LEVEL = 1000000;
    private static final int MOST_DAYS = 250;
    private static final int MOST_PLACES = 512;
    private static final int BILLION = 1000000000;
    private static final long MOST_PUBLISHED = 999999999999999999L;

    private static final int PRINT_LEVEL = 0;
    private static final int PRINT_DIVISOR = 1;
    private static final int PRINT_FACTOR = 2;

    private static final int PLACES_ABOVE = 0;
    private static final int PLACES_BELOW = 1;

    private final Shares shares = new Shares();
    private final Shares sharesBefore = new Shares();
    private final Agenda agenda = new Agenda();
    private final Desk desk = new Desk();
    private final Text text = new Text();
    private final Fraction divisor = new Fraction();
    private final Fraction nextDivisor = new Fraction();
    private final Fraction worth = new Fraction();
    private final Fraction worthBefore = new Fraction();
    private final Fraction result = new Fraction();
    private final long[] levelOfDay = new long[MOST_DAYS];
    private int daysNoted;
    private boolean based;
    private boolean allSound;

    public IndexBureau() {
        daysNoted = 0;
        based = false;
        allSound = true;
    }

    public int set(int share, int what, int v) throws IndexOutOfBoundsException, IllegalArgumentException {
        refuseUnknown(share, what);
        boolean fixed = what != Shares.PRICE && shares.isMember(share);
        if (fixed || !Shares.fits(what, v)) {
            return NONE;
        }
        shares.value[what][share] = v;
        return 0;
    }

    public int get(int share, int what) throws IndexOutOfBoundsException, IllegalArgumentException {
        refuseUnknown(share, what);
        return shares.value[what][share];
    }

    public void base(int members, int level) throws IllegalArgumentException {
        if (members < 1 || members > Shares.ALL_BITS || level < 1 || level > MOST_LEVEL) {
            throw new IllegalArgumentException();
        }
        shares.members = members;
        shares.resetFactors();
        desk.addUp(shares, divisor);
        desk.scale(divisor.down, level);
        desk.cancel(divisor.up, divisor.down);
        agenda.forget();
        daysNoted = 0;
        based = true;
        allSound = true;
    }

    public int members() {
        return based ? shares.members : NONE;
    }

    public int event(int kind, int share, int a, int b, int c) {
        boolean known = kind >= 0 && kind < Kind.HOW_MANY && Shares.has(share);
        if (!based || !known || agenda.isFull()) {
            return NONE;
        }
        return agenda.note(kind, share, a, b, c);
    }

    public int close() throws IllegalStateException {
        if (!based || daysNoted >= MOST_DAYS) {
            throw new IllegalStateException();
        }
        agenda.arrange();
        int done = 0;
        for (int i = 0; i < agenda.arranged; i++) {
            agenda.outcome[i] = perform(agenda.order[i]);
            if (agenda.outcome[i] == Outcome.DONE) {
                done++;
            }
        }
        levelOfDay[daysNoted] = roundedLevel();
        daysNoted++;
        return done;
    }

    public int outcome(int i) {
        return agenda.wasArranged(i) ? agenda.outcome[i] : NONE;
    }

    public int noted(int i) {
        return agenda.wasArranged(i) ? agenda.order[i] : NONE;
    }

    public int days() {
        return based ? daysNoted : NONE;
    }

    public long published(int day) {
        return day >= 0 && day < daysNoted ? levelOfDay[day] : NONE;
    }

    public long level() {
        return based ? roundedLevel() : NONE;
    }

    public int weight(int share) {
        if (!Shares.has(share) || !shares.isMember(share)) {
            return NONE;
        }
        desk.addUp(shares, worth);
        desk.weigh(shares, share, BILLION, worth, 1);
        desk.divide(desk.left, desk.right);
        return (int) desk.quotient.asLong();
    }

    public int print(int what, int share) {
        boolean known = what == PRINT_LEVEL || what == PRINT_DIVISOR
                || what == PRINT_FACTOR && Shares.has(share);
        if (!based || !known) {
            return NONE;
        }
        if (what == PRINT_LEVEL) {
            exactLevel();
            desk.cancel(result.up, result.down);
        } else if (what == PRINT_DIVISOR) {
            result.copy(divisor);
        } else {
            result.become(shares.factorUp[share], shares.factorDown[share]);
        }
        text.write(result);
        return text.length;
    }

    public int character(int i) {
        return i >= 0 && i < text.length ? text.characters[i] : NONE;
    }

    public int places(int what) {
        if (!based || what != PLACES_ABOVE && what != PLACES_BELOW) {
            return NONE;
        }
        return what == PLACES_ABOVE ? divisor.up.binaryDigits() : divisor.down.binaryDigits();
    }

    public int check() {
        if (!based) {
            return NONE;
        }
        return allSound ? 1 : 0;
    }

    private static void refuseUnknown(int share, int what) {
        if (!Shares.has(share)) {
            throw new IndexOutOfBoundsException();
        }
        if (what < 0 || what >= Shares.KINDS_OF_VALUE) {
            throw new IllegalArgumentException();
        }
    }

    private int perform(int place) {
        int kind = agenda.kind[place];
        int a = agenda.a[place];
        sharesBefore.copy(shares);
        int outcome = shares.change(kind, agenda.share[place], a, agenda.b[place], agenda.c[place]);
        if (outcome != Outcome.DONE || kind == Kind.ORDINARY) {
            return outcome;
        }
        findNextDivisor();
        if (nextDivisor.mostDigits() > MOST_PLACES) {
            shares.copy(sharesBefore);
            return Outcome.TOO_LONG;
        }
        boolean sound = desk.sameLevel(worthBefore, divisor, worth, nextDivisor);
        if (!sound || kind == Kind.CAP && !isCapped(a)) {
            allSound = false;
        }
        divisor.copy(nextDivisor);
        return outcome;
    }

    /**
     * A share that is no member adds nothing to either worth, so that its events leave the divisor
     * as it is without being told apart here.
     */
    private void findNextDivisor() {
        desk.addUp(sharesBefore, worthBefore);
        desk.addUp(shares, worth);
        result.copy(worth);
        desk.multiply(result.up, worthBefore.down);
        desk.multiply(result.down, worthBefore.up);
        desk.cancel(result.up, result.down);
        nextDivisor.copy(divisor);
        // Cancelled crosswise before they are multiplied, both fractions give one in least terms,
        // and the common divisors are sought among far smaller numbers.
        desk.cancel(nextDivisor.up, result.down);
        desk.cancel(result.up, nextDivisor.down);
        desk.multiply(nextDivisor.up, result.up);
        desk.multiply(nextDivisor.down, result.down);
    }

    private boolean isCapped(int inHundred) {
        boolean capped = true;
        for (int s = 0; s < Shares.HOW_MANY; s++) {
            if (shares.isMember(s)) {
                desk.weigh(shares, s, 100, worth, inHundred);
                int order = desk.left.compareWith(desk.right);
                capped = capped && (shares.hasFactorOne(s) ? order <= 0 : order == 0);
            }
        }
        return capped;
    }

    private void exactLevel() {
        desk.addUp(shares, result);
        desk.multiply(result.up, divisor.down);
        desk.multiply(result.down, divisor.up);
    }

    private long roundedLevel() {
        exactLevel();
        // Halves go up: the level in hundredths and a half more, rounded down.
        desk.scale(result.up, 200);
        result.up.add(result.down);
        desk.scale(result.down, 2);
        desk.divide(result.up, result.down);
        if (!desk.quotient.isShort()) {
            return MOST_PUBLISHED;
        }
        return Math.min(desk.quotient.asLong(), MOST_PUBLISHED);
    }

    /** The kinds of events, in the order in which a close does them. */
    private static final class Kind {
        static final int SPLIT = 0;
        static final int RIGHTS = 1;
        static final int SPECIAL = 2;
        static final int ORDINARY = 3;
        static final int LEAVING = 4;
        static final int JOINING = 5;
        static final int COUNT = 6;
        static final int FLOAT = 7;
        static final int CAP = 8;
        static final int HOW_MANY = 9;
    }

    /** What may come of an event. */
    private static final class Outcome {
        static final int DONE = 0;
        static final int WRONG_NUMBERS = 1;
        static final int WRONG_MEMBERS = 2;
        static final int TOO_LONG = 3;
    }

    /** The shares with their values and factors, which of them are members, and what events do to them. */
    private static final class Shares {
        static final int HOW_MANY = 8;
        static final int ALL_BITS = 255;
        static final int PRICE = 0;
        static final int COUNT = 1;
        static final int FLOAT = 2;
        static final int KINDS_OF_VALUE = 3;

        private static final int[] MOST = {9999999, 9999999, 100};
        private static final int MOST_RATIO = 1000;

        final int[][] value = new int[KINDS_OF_VALUE][HOW_MANY];
        final long[] factorUp = new long[HOW_MANY];
        final long[] factorDown = new long[HOW_MANY];
        int members;

        Shares() {
            for (int what = 0; what < KINDS_OF_VALUE; what++) {
                Arrays.fill(value[what], 1);
            }
            resetFactors();
            members = 0;
        }

        static boolean has(int share) {
            return share >= 0 && share < HOW_MANY;
        }

        static boolean fits(int what, long v) {
            return v >= 1 && v <= MOST[what];
        }

        boolean isMember(int share) {
            return (members >> share & 1) == 1;
        }

        boolean hasFactorOne(int share) {
            return factorUp[share] == factorDown[share];
        }

        /** The worth of a share if its factor were 1: below 10^16. */
        long plainWorth(int share) {
            return (long) value[PRICE][share] * value[COUNT][share] * value[FLOAT][share];
        }

        void copy(Shares other) {
            for (int what = 0; what < KINDS_OF_VALUE; what++) {
                System.arraycopy(other.value[what], 0, value[what], 0, HOW_MANY);
            }
            System.arraycopy(other.factorUp, 0, factorUp, 0, HOW_MANY);
            System.arraycopy(other.factorDown, 0, factorDown, 0, HOW_MANY);
            members = other.members;
        }

        /** A share that has left keeps its factor, so those of shares that are no members, too. */
        void resetFactors() {
            Arrays.fill(factorUp, 1L);
            Arrays.fill(factorDown, 1L);
        }

        /** Does what an event does to the shares; nothing, if its outcome is not DONE. */
        int change(int kind, int share, int a, int b, int c) {
            switch (kind) {
                case Kind.SPLIT:
                    return split(share, a, b);
                case Kind.RIGHTS:
                    return offerRights(share, a, b, c);
                case Kind.SPECIAL:
                case Kind.ORDINARY:
                    return payDividend(share, a);
                case Kind.LEAVING:
                    return leave(share);
                case Kind.JOINING:
                    return join(share);
                case Kind.COUNT:
                    return replace(share, COUNT, a);
                case Kind.FLOAT:
                    return replace(share, FLOAT, a);
                default:
                    return cap(a);
            }
        }

        private int split(int share, int fresh, int old) {
            if (!isRatio(fresh, old)) {
                return Outcome.WRONG_NUMBERS;
            }
            long countUp = (long) value[COUNT][share] * fresh;
            long priceUp = (long) value[PRICE][share] * old;
            return exchange(share, countUp, old, priceUp, fresh);
        }

        private int offerRights(int share, int fresh, int old, int offer) {
            if (!isRatio(fresh, old) || !fits(PRICE, offer)) {
                return Outcome.WRONG_NUMBERS;
            }
            int price = value[PRICE][share];
            if (offer >= price) {
                return Outcome.DONE;
            }
            int both = fresh + old;
            long countUp = (long) value[COUNT][share] * both;
            long priceUp = (long) price * old + (long) offer * fresh;
            return exchange(share, countUp, old, priceUp, both);
        }

        private static boolean isRatio(int a, int b) {
            return a >= 1 && a <= MOST_RATIO && b >= 1 && b <= MOST_RATIO;
        }

        private int exchange(int share, long countUp, int countDown, long priceUp, int priceDown) {
            if (countUp % countDown != 0) {
                return Outcome.WRONG_NUMBERS;
            }
            long count = countUp / countDown;
            long price = (2 * priceUp + priceDown) / (2L * priceDown);
            if (!fits(COUNT, count) || !fits(PRICE, price)) {
                return Outcome.WRONG_NUMBERS;
            }
            value[COUNT][share] = (int) count;
            value[PRICE][share] = (int) price;
            return Outcome.DONE;
        }

        private int payDividend(int share, int dividend) {
            long price = (long) value[PRICE][share] - dividend;
            if (dividend < 1 || !fits(PRICE, price)) {
                return Outcome.WRONG_NUMBERS;
            }
            value[PRICE][share] = (int) price;
            return Outcome.DONE;
        }

        private int leave(int share) {
            if (!isMember(share) || Integer.bitCount(members) == 1) {
                return Outcome.WRONG_MEMBERS;
            }
            members = members & ~(1 << share);
            return Outcome.DONE;
        }

        private int join(int share) {
            if (isMember(share)) {
                return Outcome.WRONG_MEMBERS;
            }
            members = members | 1 << share;
            factorUp[share] = 1;
            factorDown[share] = 1;
            return Outcome.DONE;
        }

        private int replace(int share, int what, int v) {
            if (!fits(what, v)) {
                return Outcome.WRONG_NUMBERS;
            }
            value[what][share] = v;
            return Outcome.DONE;
        }

        private int cap(int inHundred) {
            boolean known = inHundred >= 1 && inHundred <= 100;
            if (!known || inHundred * Integer.bitCount(members) < 100) {
                return Outcome.WRONG_MEMBERS;
            }
            int large = findLarge(inHundred);
            long up = inHundred * plainWorthOf(members & ~large);
            long left = 100L - inHundred * Integer.bitCount(large);
            resetFactors();
            for (int s = 0; s < HOW_MANY; s++) {
                if ((large >> s & 1) == 1) {
                    putFactor(s, up, left * plainWorth(s));
                }
            }
            return Outcome.DONE;
        }

        /**
         * If the large members have a hundredths each, the others have all that is left: a large one
         * is worth a times the others over what is left. Never all become large, and something is
         * always left, because the cap times the number of members is 100 or more. All products
         * stay below 8 times 10^18.
         */
        private int findLarge(int inHundred) {
            int large = 0;
            int found = members;
            for (int round = 0; round <= HOW_MANY && found != 0; round++) {
                long bound = inHundred * plainWorthOf(members & ~large);
                long left = 100L - inHundred * Integer.bitCount(large);
                found = 0;
                for (int s = 0; s < HOW_MANY; s++) {
                    boolean other = ((members & ~large) >> s & 1) == 1;
                    if (other && plainWorth(s) * left > bound) {
                        found = found | 1 << s;
                    }
                }
                large = large | found;
            }
            return large;
        }

        private long plainWorthOf(int bits) {
            long sum = 0;
            for (int s = 0; s < HOW_MANY; s++) {
                if ((bits >> s & 1) == 1) {
                    sum += plainWorth(s);
                }
            }
            return sum;
        }

        private void putFactor(int share, long up, long down) {
            long common = Desk.commonDivisor(up, down);
            if (common > 0) {
                factorUp[share] = up / common;
                factorDown[share] = down / common;
            }
        }
    }

    /** The events that are noted for the close, and those of the latest close with their outcomes. */
    private static final class Agenda {
        private static final int ROOM = 16;

        final int[] kind = new int[ROOM];
        final int[] share = new int[ROOM];
        final int[] a = new int[ROOM];
        final int[] b = new int[ROOM];
        final int[] c = new int[ROOM];
        final int[] order = new int[ROOM];
        final int[] outcome = new int[ROOM];
        int waiting;
        int arranged;

        void forget() {
            waiting = 0;
            arranged = 0;
        }

        boolean isFull() {
            return waiting >= ROOM;
        }

        boolean wasArranged(int i) {
            return i >= 0 && i < arranged;
        }

        int note(int newKind, int newShare, int newA, int newB, int newC) {
            kind[waiting] = newKind;
            share[waiting] = newShare;
            a[waiting] = newA;
            b[waiting] = newB;
            c[waiting] = newC;
            waiting++;
            return waiting;
        }

        /** Puts what waits in the order of the close; from then on nothing waits. */
        void arrange() {
            for (int place = 0; place < waiting; place++) {
                int at = place;
                while (at > 0 && isBefore(place, order[at - 1])) {
                    order[at] = order[at - 1];
                    at--;
                }
                order[at] = place;
            }
            arranged = waiting;
            waiting = 0;
        }

        private boolean isBefore(int later, int earlier) {
            if (kind[later] != kind[earlier]) {
                return kind[later] < kind[earlier];
            }
            return share[later] < share[earlier];
        }
    }

    /** What was printed latest. */
    private static final class Text {
        // The level has at most 989 binary digits above and 932 below: 298 and 281 decimal ones.
        private static final int ROOM = 640;
        private static final int DIGITS_AT_ONCE = 9;
        private static final int MOST_PIECES = 80;

        final char[] characters = new char[ROOM];
        private final Whole rest = new Whole();
        int length;

        void write(Fraction fraction) {
            length = 0;
            writeWhole(fraction.up);
            if (!fraction.down.isOne()) {
                append('/');
                writeWhole(fraction.down);
            }
        }

        private void writeWhole(Whole number) {
            int start = length;
            rest.copy(number);
            for (int piece = 0; piece < MOST_PIECES && !rest.isZero(); piece++) {
                int digits = rest.divideBySmall(BILLION);
                writeBackwards(digits, rest.isZero());
            }
            turnRound(start);
        }

        private void writeBackwards(int digits, boolean leading) {
            int left = digits;
            for (int i = 0; i < DIGITS_AT_ONCE && (left > 0 || !leading); i++) {
                append((char) ('0' + left % 10));
                left = left / 10;
            }
        }

        private void append(char character) {
            if (length < ROOM) {
                characters[length] = character;
                length++;
            }
        }

        private void turnRound(int start) {
            int last = length - 1;
            for (int first = start; first < last; first++) {
                char kept = characters[first];
                characters[first] = characters[last];
                characters[last] = kept;
                last--;
            }
        }
    }

    /** A fraction above 0. Only where it is said so is it in least terms. */
    private static final class Fraction {
        final Whole up = new Whole();
        final Whole down = new Whole();

        void become(long newUp, long newDown) {
            up.become(newUp);
            down.become(newDown);
        }

        void copy(Fraction other) {
            up.copy(other.up);
            down.copy(other.down);
        }

        /** The binary digits above or below, whichever are more. */
        int mostDigits() {
            return Math.max(up.binaryDigits(), down.binaryDigits());
        }
    }

    /** The rows on which fractions are worked out. */
    private static final class Desk {
        private static final int MOST_STEPS = 10000;

        /** What divide() found. */
        final Whole quotient = new Whole();
        /** What weigh() found. */
        final Whole left = new Whole();
        final Whole right = new Whole();

        private final Whole product = new Whole();
        private final Whole factor = new Whole();
        private final Whole term = new Whole();
        private final Whole shifted = new Whole();
        private final Whole greater = new Whole();
        private final Whole lesser = new Whole();

        static long commonDivisor(long a, long b) {
            long x = a;
            long y = b;
            for (int step = 0; step < MOST_STEPS && y != 0; step++) {
                long rest = x % y;
                x = y;
                y = rest;
            }
            return x;
        }

        void multiply(Whole number, Whole by) {
            product.setProduct(number, by);
            number.copy(product);
        }

        /** Multiplies without multiply(), which would make the deepest calls of a close one deeper. */
        void scale(Whole number, long by) {
            factor.become(by);
            product.setProduct(number, factor);
            number.copy(product);
        }

        /** Divides; what remains is left in rest. */
        void divide(Whole rest, Whole by) {
            quotient.become(0);
            if (by.isZero() || rest.compareWith(by) < 0) {
                return;
            }
            if (by.size == 1) {
                quotient.copy(rest);
                rest.become(quotient.divideBySmall(by.digits[0]));
                return;
            }
            // The guesses of digits are good only if the top digit of the divisor is large.
            int shift = by.freeBits();
            shifted.copy(by);
            shifted.shiftUp(shift);
            rest.shiftUp(shift);
            int top = rest.size - shifted.size;
            for (int at = top; at >= 0; at--) {
                int digit = rest.guessDigit(shifted, at);
                if (rest.subtractAt(at, shifted, digit)) {
                    rest.addAt(at, shifted);
                    digit--;
                }
                quotient.digits[at] = digit;
            }
            quotient.trim(top + 1);
            rest.trim(rest.size);
            rest.shiftDown(shift);
        }

        /** Divides both by all that they have in common. */
        void cancel(Whole a, Whole b) {
            Whole common = greater;
            Whole rest = lesser;
            common.copy(a);
            rest.copy(b);
            for (int step = 0; step < MOST_STEPS && !rest.isShort(); step++) {
                divide(common, rest);
                Whole kept = common;
                common = rest;
                rest = kept;
            }
            if (!rest.isZero()) {
                divide(common, rest);
                common.become(commonDivisor(rest.asLong(), common.asLong()));
            }
            if (common.isZero() || common.isOne()) {
                return;
            }
            divide(a, common);
            a.copy(quotient);
            divide(b, common);
            b.copy(quotient);
        }

        /** What all members are worth together. */
        void addUp(Shares shares, Fraction sum) {
            sum.become(0, 1);
            for (int s = 0; s < Shares.HOW_MANY; s++) {
                if (shares.isMember(s)) {
                    addTo(sum, shares.plainWorth(s), shares.factorUp[s], shares.factorDown[s]);
                }
            }
        }

        private void addTo(Fraction sum, long plain, long up, long down) {
            // After a cap the worth of a large one and its factor have nearly all in common.
            long common = Math.max(1, commonDivisor(plain, down));
            long below = down / common;
            term.become(plain / common);
            scale(term, up);
            multiply(term, sum.down);
            scale(sum.up, below);
            scale(sum.down, below);
            sum.up.add(term);
        }

        /** Leaves left and right as so many times a share's worth is to so many times another worth. */
        void weigh(Shares shares, int share, int times, Fraction worth, int timesWorth) {
            left.copy(worth.down);
            scale(left, shares.plainWorth(share));
            scale(left, shares.factorUp[share]);
            scale(left, times);
            right.copy(worth.up);
            scale(right, shares.factorDown[share]);
            scale(right, timesWorth);
        }

        boolean sameLevel(Fraction worth, Fraction divisor, Fraction otherWorth, Fraction otherDivisor) {
            left.copy(worth.up);
            multiply(left, divisor.down);
            multiply(left, otherWorth.down);
            multiply(left, otherDivisor.up);
            right.copy(otherWorth.up);
            multiply(right, otherDivisor.down);
            multiply(right, worth.down);
            multiply(right, divisor.up);
            return left.compareWith(right) == 0;
        }
    }

    /**
     * A whole number, 0 or above, in a row of digits of 30 bits, the lowest first. The row is 0 from
     * size on, and its digit below size is not 0.
     */
    private static final class Whole {
        // Seven factors have at most 60 binary digits below, so that the worth of all has at most
        // 420 below and 477 above. Two levels compared crosswise are the longest numbers: 477, 420
        // and twice 512 binary digits together, which is 66 digits.
        private static final int ROOM = 72;
        private static final int BITS = 30;
        private static final int MASK = (1 << BITS) - 1;

        final int[] digits = new int[ROOM];
        int size;

        void become(long v) {
            clear();
            digits[0] = (int) (v & MASK);
            digits[1] = (int) (v >> BITS & MASK);
            digits[2] = (int) (v >> 2 * BITS & MASK);
            trim(3);
        }

        void copy(Whole other) {
            System.arraycopy(other.digits, 0, digits, 0, Math.max(size, other.size));
            size = other.size;
        }

        private void clear() {
            for (int i = 0; i < size; i++) {
                digits[i] = 0;
            }
            size = 0;
        }

        void trim(int most) {
            size = most < ROOM ? most : ROOM;
            while (size > 0 && digits[size - 1] == 0) {
                size--;
            }
        }

        boolean isZero() {
            return size == 0;
        }

        boolean isOne() {
            return size == 1 && digits[0] == 1;
        }

        /** Whether asLong() has all of it. */
        boolean isShort() {
            return size <= 2;
        }

        long asLong() {
            return (long) digits[1] << BITS | digits[0];
        }

        int binaryDigits() {
            return size * BITS - freeBits();
        }

        /** How many bits of the top digit are above its highest 1. */
        int freeBits() {
            int free = 0;
            while (size > 0 && free < BITS && digits[size - 1] >> BITS - 1 - free == 0) {
                free++;
            }
            return free;
        }

        int compareWith(Whole other) {
            for (int i = Math.max(size, other.size) - 1; i >= 0; i--) {
                if (digits[i] != other.digits[i]) {
                    return Integer.compare(digits[i], other.digits[i]);
                }
            }
            return 0;
        }

        void add(Whole other) {
            int most = Math.min(Math.max(size, other.size) + 1, ROOM);
            int carry = 0;
            for (int i = 0; i < most; i++) {
                int sum = digits[i] + other.digits[i] + carry;
                digits[i] = sum & MASK;
                carry = sum >>> BITS;
            }
            trim(most);
        }

        /** Becomes a times b; it is neither of them. */
        void setProduct(Whole a, Whole b) {
            clear();
            for (int i = 0; i < a.size && i + b.size < ROOM; i++) {
                long carry = 0;
                for (int j = 0; j < b.size; j++) {
                    long sum = (long) a.digits[i] * b.digits[j] + digits[i + j] + carry;
                    digits[i + j] = (int) (sum & MASK);
                    carry = sum >> BITS;
                }
                digits[i + b.size] = (int) carry;
            }
            trim(a.size + b.size);
        }

        /** Divides by a number of 30 bits at most: what remains. */
        int divideBySmall(int by) {
            if (by <= 0) {
                return 0;
            }
            long rest = 0;
            for (int i = size - 1; i >= 0; i--) {
                long part = rest << BITS | digits[i];
                digits[i] = (int) (part / by);
                rest = part % by;
            }
            trim(size);
            return (int) rest;
        }

        /** Times two so many times, fewer than the bits of a digit. */
        void shiftUp(int bits) {
            int most = Math.min(size + 1, ROOM);
            long carry = 0;
            for (int i = 0; i < most; i++) {
                long part = (long) digits[i] << bits | carry;
                digits[i] = (int) (part & MASK);
                carry = part >> BITS;
            }
            trim(most);
        }

        void shiftDown(int bits) {
            long lowBits = (1L << bits) - 1;
            long above = 0;
            for (int i = size - 1; i >= 0; i--) {
                long part = above << BITS | digits[i];
                digits[i] = (int) (part >> bits);
                above = part & lowBits;
            }
            trim(size);
        }

        private int digitAt(int i) {
            return i >= 0 && i < ROOM ? digits[i] : 0;
        }

        /**
         * How often a divisor, at a digit's place, goes into what is left: exactly or once too much.
         * The divisor has two digits or more, and no free bits.
         */
        int guessDigit(Whole divisor, int at) {
            int top = divisor.digitAt(divisor.size - 1);
            int second = divisor.digitAt(divisor.size - 2);
            if (top == 0) {
                return 0;
            }
            int i = at + divisor.size;
            long two = (long) digitAt(i) << BITS | digitAt(i - 1);
            long guess = two / top;
            long rest = two % top;
            // Seen with the second digit, a guess is at most two too great at first.
            for (int more = 0; more < 2 && rest <= MASK; more++) {
                if (guess > MASK || guess * second > (rest << BITS | digitAt(i - 2))) {
                    guess--;
                    rest += top;
                }
            }
            return (int) guess;
        }

        /** Takes away other, so many times, at a digit's place: whether that was too much. */
        boolean subtractAt(int at, Whole other, int times) {
            long carry = 0;
            int end = Math.min(at + other.size, ROOM - 1);
            for (int i = at; i < end; i++) {
                long part = digits[i] - (long) other.digits[i - at] * times + carry;
                digits[i] = (int) (part & MASK);
                carry = part >> BITS;
            }
            long last = digits[end] + carry;
            digits[end] = (int) (last & MASK);
            return last < 0;
        }

        void addAt(int at, Whole other) {
            int carry = 0;
            int end = Math.min(at + other.size, ROOM - 1);
            for (int i = at; i < end; i++) {
                int part = digits[i] + other.digits[i - at] + carry;
                digits[i] = part & MASK;
                carry = part >>> BITS;
            }
            digits[end] = digits[end] + carry & MASK;
        }
    }
}
