import java.util.Arrays;

/**
 * Exact digits of constants, square roots and quotients in any base, and
 * arithmetic on the whole numbers that such digits make.
 *
 * All rows are made by the constructor and used again, so that no call makes
 * an object but for the exception that it throws.
 */
public final class DigitMill {
    public static final int NONE = -1;

    private static final int LEAST_BASE = 2;
    private static final int GREATEST_BASE = 36;
    private static final int FIRST_BASE = 10;
    private static final int MOST_PLACES = 6000;
    private static final int MOST_PLACE_BITS = 20000;
    private static final int MOST_LENGTH = 24000;
    private static final int LONGEST_SOUGHT = 12;

    private static final int PI = 0;
    private static final int E = 1;
    private static final int GOLDEN = 2;
    private static final int LOG_TWO = 3;
    private static final int CUBES = 4;
    private static final int CONSTANTS = 5;

    /** Limbs of 30 bits, so that a product of two and its carries fit a long without its sign. */
    private static final int LIMB_BITS = 30;
    private static final int LIMB_MASK = (1 << LIMB_BITS) - 1;
    private static final int LIMB_UNIT = 1 << LIMB_BITS;
    private static final int INT_BITS = 32;

    /** 24000 bits are 800 limbs. */
    private static final int TEXT_LIMBS = 800;
    /** The longest number on the bench is a constant of MOST_DEPTH limbs times 2^20000: 1373 limbs. */
    private static final int BENCH_LIMBS = 1400;
    /** Base 33 has the smallest groups, 25.2 bits: 952 of them make 24000 bits. */
    private static final int MOST_GROUPS = 960;

    /** 20000 bits and the unsure ones need 668 limbs behind the point; the rest is for doubtful cases. */
    private static final int MOST_DEPTH = 704;
    private static final int SPARE_DEPTH = 2;
    private static final int DEPTH_STEP = 8;

    private Text text;
    private Text other;
    private final Bench bench;
    private final Series series;

    public DigitMill() {
        text = new Text();
        other = new Text();
        bench = new Bench();
        series = new Series();
    }

    public int mill(int which, int n, int base) throws IllegalArgumentException, UnsupportedOperationException {
        if (which < 0 || which >= CONSTANTS) {
            throw new IllegalArgumentException("no such constant");
        }
        refuseWrongPlaces(n, base);
        refuseTooManyPlaces(n, base);
        if (which == GOLDEN) {
            bench.makeGolden(n, base);
        } else {
            makeConstant(which, n, base);
        }
        return retell(bench.result, base);
    }

    public int root(long a, int n, int base) throws IllegalArgumentException, UnsupportedOperationException {
        if (a < 0) {
            throw new IllegalArgumentException("a is below 0");
        }
        refuseWrongPlaces(n, base);
        refuseTooManyPlaces(n, base);
        bench.makeRoot(a, n, base);
        return retell(bench.result, base);
    }

    public int over(long a, long b, int n, int base) throws IllegalArgumentException, UnsupportedOperationException {
        if (a < 0 || b < 1) {
            throw new IllegalArgumentException("a is below 0 or b is below 1");
        }
        refuseWrongPlaces(n, base);
        refuseTooManyPlaces(n, base);
        bench.left.assign(a);
        bench.left.raise(base, n);
        bench.right.assign(b);
        bench.makeQuotient();
        return retell(bench.result, base);
    }

    public int number(long a, int base) throws IllegalArgumentException {
        if (a < 0) {
            throw new IllegalArgumentException("a is below 0");
        }
        refuseWrongBase(base);
        bench.result.assign(a);
        return retell(bench.result, base);
    }

    public int push(int digit) throws IllegalArgumentException, UnsupportedOperationException {
        if (digit < 0 || digit >= text.base) {
            throw new IllegalArgumentException("no digit of the base");
        }
        Whole longer = bench.result;
        longer.copy(text.whole);
        longer.scale(text.base, digit);
        refuseTooLong(longer);
        text.whole.copy(longer);
        text.shiftIn(digit);
        return digits();
    }

    public void keep() {
        other.copyText(text);
    }

    public int swap() {
        Text before = text;
        text = other;
        other = before;
        return digits();
    }

    public int add() throws UnsupportedOperationException {
        Whole sum = bench.result;
        sum.copy(text.whole);
        sum.increase(other.whole);
        refuseTooLong(sum);
        return retell(sum, text.base);
    }

    public int subtract() throws ArithmeticException {
        if (text.whole.order(other.whole) < 0) {
            throw new ArithmeticException("the other is greater");
        }
        Whole rest = bench.result;
        rest.copy(text.whole);
        rest.decrease(other.whole);
        return retell(rest, text.base);
    }

    public int times() throws UnsupportedOperationException {
        // A product has as many bits as both factors together, or one less.
        if (text.whole.length() + other.whole.length() > MOST_LENGTH + 1) {
            throw new UnsupportedOperationException("the product is too long");
        }
        Whole product = bench.result;
        product.multiply(text.whole, other.whole);
        refuseTooLong(product);
        return retell(product, text.base);
    }

    public int divide() throws ArithmeticException {
        if (other.whole.size == 0) {
            throw new ArithmeticException("the other is 0");
        }
        bench.left.copy(text.whole);
        bench.right.copy(other.whole);
        bench.makeQuotient();
        other.replace(bench.left, other.base);
        return retell(bench.result, text.base);
    }

    public int rooted() {
        bench.left.copy(text.whole);
        bench.extractRoot();
        return retell(bench.result, text.base);
    }

    public int convert(int base) throws IllegalArgumentException {
        refuseWrongBase(base);
        text.changeBase(base);
        return digits();
    }

    public int digit(int i) throws IndexOutOfBoundsException {
        if (i < 0 || i >= digits()) {
            throw new IndexOutOfBoundsException("no such digit");
        }
        return text.digitAt(i);
    }

    public int about(int what) throws IllegalArgumentException {
        switch (what) {
            case 0:
                return digits();
            case 1:
                return text.whole.length();
            case 2:
                return text.base;
            case 3:
                return digitSum();
            default:
                throw new IllegalArgumentException("nothing to tell");
        }
    }

    public int count(int digit, int i, int k) throws IndexOutOfBoundsException {
        if (i < 0 || k >= digits()) {
            throw new IndexOutOfBoundsException("no such place");
        }
        int seen = 0;
        for (int place = i; place <= k; place++) {
            if (text.digitAt(place) == digit) {
                seen++;
            }
        }
        return seen;
    }

    public int find(long a, int n, int i) throws IllegalArgumentException {
        if (n < 1 || n > LONGEST_SOUGHT || a < 0 || i < 0) {
            throw new IllegalArgumentException("nothing to look for, or nowhere");
        }
        // 36^12 is below 2^63, so neither the power nor the window below overflows.
        long highest = power(text.base, n - 1);
        if (a / text.base >= highest) {
            throw new IllegalArgumentException("a has more than n digits");
        }
        int end = digits();
        long window = 0;
        int inWindow = 0;
        for (int place = i; place < end; place++) {
            window = window % highest * text.base + text.digitAt(place);
            inWindow++;
            if (inWindow >= n && window == a) {
                return place - n + 1;
            }
        }
        return NONE;
    }

    public int compare() {
        return text.whole.order(other.whole);
    }

    private static void refuseWrongBase(int base) throws IllegalArgumentException {
        if (base < LEAST_BASE || base > GREATEST_BASE) {
            throw new IllegalArgumentException("no such base");
        }
    }

    private static void refuseWrongPlaces(int n, int base) throws IllegalArgumentException {
        if (n < 0 || n > MOST_PLACES) {
            throw new IllegalArgumentException("n is not 0 to 6000");
        }
        refuseWrongBase(base);
    }

    private static void refuseTooManyPlaces(int n, int base) throws UnsupportedOperationException {
        if (n * bitsPerDigit(base) > MOST_PLACE_BITS) {
            throw new UnsupportedOperationException("too many places in this base");
        }
    }

    private static void refuseTooLong(Whole whole) throws UnsupportedOperationException {
        if (whole.length() > MOST_LENGTH) {
            throw new UnsupportedOperationException("the number is too long");
        }
    }

    /** The document's L(base): the least e with 2^e not below base. */
    private static int bitsPerDigit(int base) {
        return bitsOf(base - 1);
    }

    private static int bitsOf(int a) {
        return INT_BITS - Integer.numberOfLeadingZeros(a);
    }

    private static long power(int base, int exponent) {
        long result = 1;
        for (int i = 0; i < exponent; i++) {
            result *= base;
        }
        return result;
    }

    /** How many digits of a base are told, or multiplied by, at one go: as many as fit a limb. */
    private static int digitsPerGroup(int base) {
        int digits = 1;
        long next = (long) base * base;
        while (next <= LIMB_UNIT && digits < LIMB_BITS) {
            digits++;
            next *= base;
        }
        return digits;
    }

    private int retell(Whole whole, int base) {
        text.replace(whole, base);
        return digits();
    }

    private int digits() {
        text.tell(bench.left);
        return text.digits;
    }

    private int digitSum() {
        text.tell(bench.left);
        return text.sumOfDigits();
    }

    /**
     * The series gives a bound below the constant and how far off it may be.
     * Should both ends not have the same digits, it is taken deeper.
     */
    private void makeConstant(int which, int n, int base) {
        int unsureBits = n * bitsPerDigit(base) + Series.UNSURE_BITS;
        int unsure = (unsureBits + LIMB_BITS - 1) / LIMB_BITS;
        boolean sure = false;
        for (int wanted = unsure + SPARE_DEPTH; !sure && wanted <= MOST_DEPTH; wanted += DEPTH_STEP) {
            int depth = series.reach(which, wanted);
            bench.result.load(series.row(which), depth + 1);
            bench.result.raise(base, n);
            sure = bench.result.absorbsCarry(unsure, depth);
            bench.result.drop(depth);
        }
    }

    /** A whole number, not below 0: limbs from the lowest up, the highest of them not 0. */
    private static final class Whole {
        private final int[] limbs;
        private int size;

        Whole(int room) {
            limbs = new int[room];
        }

        void assign(long a) {
            size = 0;
            for (long rest = a; rest > 0 && size < limbs.length; rest >>= LIMB_BITS) {
                limbs[size] = (int) (rest & LIMB_MASK);
                size++;
            }
        }

        void copy(Whole from) {
            load(from.limbs, from.size);
        }

        void load(int[] row, int limbsOfRow) {
            size = Math.min(limbsOfRow, Math.min(row.length, limbs.length));
            System.arraycopy(row, 0, limbs, 0, size);
            trim();
        }

        int length() {
            return size == 0 ? 0 : (size - 1) * LIMB_BITS + bitsOf(limbs[size - 1]);
        }

        int order(Whole to) {
            if (size != to.size) {
                return size < to.size ? -1 : 1;
            }
            for (int i = size - 1; i >= 0; i--) {
                if (limbs[i] != to.limbs[i]) {
                    return limbs[i] < to.limbs[i] ? -1 : 1;
                }
            }
            return 0;
        }

        void increase(Whole by) {
            int longer = Math.min(Math.max(size, by.size), limbs.length);
            int carry = 0;
            for (int i = 0; i < longer; i++) {
                int sum = limbAt(i) + by.limbAt(i) + carry;
                limbs[i] = sum & LIMB_MASK;
                carry = sum >> LIMB_BITS;
            }
            size = longer;
            append(carry);
        }

        /** What is taken off is not above this number. */
        void decrease(Whole by) {
            int borrow = 0;
            for (int i = 0; i < size; i++) {
                int rest = limbs[i] - by.limbAt(i) + borrow;
                limbs[i] = rest & LIMB_MASK;
                borrow = rest >> LIMB_BITS;
            }
            trim();
        }

        /** Times factor, and plus what is below it. */
        void scale(int factor, int plus) {
            long carry = plus;
            for (int i = 0; i < size; i++) {
                carry += (long) limbs[i] * factor;
                limbs[i] = (int) (carry & LIMB_MASK);
                carry >>= LIMB_BITS;
            }
            append((int) carry);
        }

        /** Divided by what is above 0; answers what is left. */
        int shrink(int divisor) {
            long rest = 0;
            for (int i = size - 1; i >= 0; i--) {
                long now = rest << LIMB_BITS | limbs[i];
                long part = now / divisor;
                limbs[i] = (int) part;
                rest = now - part * divisor;
            }
            trim();
            return (int) rest;
        }

        /** Times base^n. */
        void raise(int base, int n) {
            int perGroup = digitsPerGroup(base);
            int group = (int) power(base, perGroup);
            for (int i = 0; i < n / perGroup; i++) {
                scale(group, 0);
            }
            scale((int) power(base, n % perGroup), 0);
        }

        void multiply(Whole a, Whole b) {
            zero(a.size + b.size);
            for (int i = 0; i < a.size && i + b.size < limbs.length; i++) {
                long factor = a.limbs[i];
                long carry = 0;
                for (int j = 0; j < b.size; j++) {
                    carry += factor * b.limbs[j] + limbs[i + j];
                    limbs[i + j] = (int) (carry & LIMB_MASK);
                    carry >>= LIMB_BITS;
                }
                limbs[i + b.size] = (int) carry;
            }
            trim();
        }

        /** Times 2^bits. */
        void lift(int bits) {
            int whole = bits / LIMB_BITS;
            if (size > 0 && size + whole <= limbs.length) {
                System.arraycopy(limbs, 0, limbs, whole, size);
                Arrays.fill(limbs, 0, whole, 0);
                size += whole;
                scale(1 << bits % LIMB_BITS, 0);
            }
        }

        /** Divided by 2^bits. */
        void lower(int bits) {
            drop(bits / LIMB_BITS);
            shrink(1 << bits % LIMB_BITS);
        }

        void drop(int lowest) {
            int rest = Math.max(0, size - lowest);
            System.arraycopy(limbs, size - rest, limbs, 0, rest);
            size = rest;
        }

        /**
         * Takes factor times some limbs of another number off this one, from a
         * place on (a factor of -1 puts them back); answers what the limb
         * above them then owes (-1) or has too much (1).
         */
        int takeAway(int at, Whole of, int from, int many, long factor) {
            long carry = 0;
            if (at + many >= limbs.length || from + many > of.limbs.length) {
                return 0;
            }
            for (int i = 0; i < many; i++) {
                carry += limbs[at + i] - factor * of.limbs[from + i];
                limbs[at + i] = (int) (carry & LIMB_MASK);
                carry >>= LIMB_BITS;
            }
            carry += limbs[at + many];
            limbs[at + many] = (int) (carry & LIMB_MASK);
            return (int) (carry >> LIMB_BITS);
        }

        /** Whether one more at the limb low would leave all limbs from high on as they are. */
        boolean absorbsCarry(int low, int high) {
            for (int i = low; i < high; i++) {
                if (limbAt(i) != LIMB_MASK) {
                    return true;
                }
            }
            return false;
        }

        int limbAt(int i) {
            return i < size ? limbs[i] : 0;
        }

        /** That many limbs, all 0, to be filled and trimmed. */
        void zero(int newSize) {
            size = Math.min(newSize, limbs.length);
            Arrays.fill(limbs, 0, size, 0);
        }

        /** The limb above the highest is read, and lent from, in a long division. */
        void openTop() {
            if (size < limbs.length) {
                limbs[size] = 0;
            }
        }

        void append(int limb) {
            if (limb != 0 && size < limbs.length) {
                limbs[size] = limb;
                size++;
            }
        }

        void trim() {
            while (size > 0 && limbs[size - 1] == 0) {
                size--;
            }
        }
    }

    /** A number and a base, and the digits that it has in that base once they are told. */
    private static final class Text {
        private final Whole whole = new Whole(TEXT_LIMBS);
        private int base = FIRST_BASE;
        /** The digits, in groups that fit a limb, from the lowest group up. */
        private final int[] groups = new int[MOST_GROUPS];
        private int groupsUsed;
        private int perGroup;
        /** The powers of the base up to that of a whole group. */
        private final int[] powers = new int[LIMB_BITS + 1];
        private int digits;
        private boolean told;

        /** 0 is told at once, so that no power or group is ever missing. */
        Text() {
            setPowers();
            groupsUsed = 1;
            digits = 1;
            told = true;
        }

        void replace(Whole newWhole, int newBase) {
            whole.copy(newWhole);
            changeBase(newBase);
        }

        void changeBase(int newBase) {
            base = newBase;
            told = false;
        }

        void copyText(Text from) {
            replace(from.whole, from.base);
            groupsUsed = from.groupsUsed;
            System.arraycopy(from.groups, 0, groups, 0, groupsUsed);
            perGroup = from.perGroup;
            System.arraycopy(from.powers, 0, powers, 0, powers.length);
            digits = from.digits;
            told = from.told;
        }

        /** Makes the digits if they are not known; the scratch is used up. */
        void tell(Whole scratch) {
            if (told) {
                return;
            }
            setPowers();
            int group = powers[perGroup];
            scratch.copy(whole);
            groups[0] = 0;
            groupsUsed = 0;
            while (scratch.size > 0 && groupsUsed < groups.length) {
                groups[groupsUsed] = scratch.shrink(group);
                groupsUsed++;
            }
            groupsUsed = Math.max(1, groupsUsed);
            measure();
            told = true;
        }

        /** A digit comes behind the others; the number has been changed already. */
        void shiftIn(int digit) {
            if (!told) {
                return;
            }
            long group = powers[perGroup];
            long carry = digit;
            for (int i = 0; i < groupsUsed; i++) {
                long now = (long) groups[i] * base + carry;
                carry = now / group;
                groups[i] = (int) (now - carry * group);
            }
            if (carry > 0 && groupsUsed < groups.length) {
                groups[groupsUsed] = (int) carry;
                groupsUsed++;
            }
            measure();
        }

        /** For a place that the text has, when it is told. */
        int digitAt(int place) {
            int fromLowest = digits - 1 - place;
            int group = fromLowest / perGroup;
            return groups[group] / powers[fromLowest % perGroup] % base;
        }

        int sumOfDigits() {
            int sum = 0;
            for (int i = 0; i < groupsUsed; i++) {
                int rest = groups[i];
                for (int place = 0; place < perGroup; place++) {
                    sum += rest % base;
                    rest /= base;
                }
            }
            return sum;
        }

        private void setPowers() {
            perGroup = digitsPerGroup(base);
            powers[0] = 1;
            for (int i = 1; i <= perGroup; i++) {
                powers[i] = powers[i - 1] * base;
            }
        }

        private void measure() {
            int highest = groups[groupsUsed - 1];
            int inHighest = 1;
            while (inHighest < perGroup && highest >= powers[inHighest]) {
                inHighest++;
            }
            digits = (groupsUsed - 1) * perGroup + inHighest;
        }
    }

    /** Room for long division and square roots, one limb of the result after the other. */
    private static final class Bench {
        private final Whole left = new Whole(BENCH_LIMBS);
        private final Whole right = new Whole(BENCH_LIMBS);
        private final Whole result = new Whole(BENCH_LIMBS);

        /** The square root of a times base^n. */
        void makeRoot(long a, int n, int base) {
            left.assign(a);
            left.raise(base, 2 * n);
            extractRoot();
        }

        /** Half of base^n and the root of 5 to n places; rounding that root down first changes nothing. */
        void makeGolden(int n, int base) {
            makeRoot(5, n, base);
            left.assign(1);
            left.raise(base, n);
            result.increase(left);
            result.lower(1);
        }

        /** The result becomes left / right, rounded down, and left what is left; right is not 0. */
        void makeQuotient() {
            if (left.size < right.size || right.size == 0) {
                result.zero(0);
                return;
            }
            // With its highest bit set the divisor's top limb tells a limb of the quotient to within 2.
            int shift = LIMB_BITS - bitsOf(right.limbs[right.size - 1]);
            left.lift(shift);
            right.lift(shift);
            int highest = left.size - right.size;
            left.openTop();
            result.zero(highest + 1);
            for (int at = highest; at >= 0; at--) {
                result.limbs[at] = quotientLimb(at);
            }
            result.trim();
            left.size = right.size;
            left.trim();
            left.lower(shift);
        }

        private int quotientLimb(int at) {
            int many = right.size;
            long head = (long) left.limbs[at + many] << LIMB_BITS | left.limbs[at + many - 1];
            long guess = Math.min(LIMB_MASK, head / right.limbs[many - 1]);
            int owed = left.takeAway(at, right, 0, many, guess);
            for (int tries = 0; owed < 0 && tries < 2; tries++) {
                guess--;
                owed += left.takeAway(at, right, 0, many, -1);
            }
            return (int) guess;
        }

        /** The result becomes the square root of left, rounded down; left is used up. */
        void extractRoot() {
            int pairs = (left.length() + 2 * LIMB_BITS - 1) / (2 * LIMB_BITS);
            result.zero(pairs + 1);
            if (pairs == 0) {
                result.trim();
                return;
            }
            // A lift of 2 * shift bits fills the highest pair of limbs, so that each guess is at most 1 too high.
            int shift = (pairs * 2 * LIMB_BITS - left.length()) / 2;
            left.lift(2 * shift);
            takeFirstRootLimb(pairs);
            for (int known = 1; known < pairs; known++) {
                takeRootLimb(pairs, known);
            }
            // It was twice the root that the limbs were gathered for.
            result.lower(shift + 1);
        }

        private void takeFirstRootLimb(int pairs) {
            int high = 2 * pairs - 1;
            long head = (long) left.limbs[high] << LIMB_BITS | left.limbs[high - 1];
            long root = 0;
            for (int bit = LIMB_BITS - 1; bit >= 0; bit--) {
                long longer = root | 1L << bit;
                if (longer * longer <= head) {
                    root = longer;
                }
            }
            long rest = head - root * root;
            left.limbs[high] = (int) (rest >> LIMB_BITS);
            left.limbs[high - 1] = (int) (rest & LIMB_MASK);
            setTwice(pairs - 1, root);
        }

        /**
         * With r the root so far and x its next limb, x * (2 * r * unit + x) comes
         * off what is left; the result holds 2 * r, its top limb always at pairs.
         */
        private void takeRootLimb(int pairs, int known) {
            int from = pairs - 1 - known;
            int at = 2 * from;
            int top = at + known;
            long divisor = (long) result.limbs[pairs] << LIMB_BITS | result.limbs[pairs - 1];
            long head = (long) left.limbs[top + 2] << LIMB_BITS | left.limbs[top + 1];
            head = head << LIMB_BITS | left.limbs[top];
            long guess = divisor > 0 ? Math.min(LIMB_MASK, head / divisor) : 0;
            result.limbs[from] = (int) guess;
            if (left.takeAway(at, result, from, known + 2, guess) < 0) {
                guess--;
                // (x + 1) * (2ru + x + 1) - x * (2ru + x) is 2ru + 2x + 1.
                result.limbs[from] = (int) (2 * guess + 1);
                left.takeAway(at, result, from, known + 2, -1);
            }
            setTwice(from, guess);
        }

        /** The limb above is even, so that it has room for the carry. */
        private void setTwice(int at, long limb) {
            result.limbs[at] = (int) (2 * limb & LIMB_MASK);
            result.limbs[at + 1] += (int) (2 * limb >> LIMB_BITS);
        }
    }

    /**
     * Bounds below the constants, in limbs behind the point, kept for later calls.
     *
     * Each series is c0 + r1 * (c1 + r2 * (c2 + ...)) with ratios of small
     * numbers, and is folded up from its far end. A limb in work may be of
     * either sign and above a limb's unit until the sum is settled: that
     * spares all carries, and stays far below 2^63.
     */
    private static final class Series {
        /** The folds err by less than one unit of the limb 1 either way: bits in which the bound may be off. */
        static final int UNSURE_BITS = LIMB_BITS + 1;
        private static final int SPARE_BITS = 32;

        private final int[][] rows = new int[CONSTANTS][MOST_DEPTH + 1];
        private final int[] depths = new int[CONSTANTS];
        private final long[] work = new long[MOST_DEPTH + 1];
        private final long[] sum = new long[MOST_DEPTH + 1];
        private int depth;

        /** The row's highest limb stands before the point. */
        int[] row(int which) {
            return rows[which];
        }

        /** Sees to a row of at least that many limbs behind the point; answers how many it has. */
        int reach(int which, int wanted) {
            int held = depths[which];
            if (held < wanted) {
                // Half as much again, so that growing demands do not begin anew each time.
                depth = Math.min(MOST_DEPTH, Math.max(wanted, held + held / 2));
                Arrays.fill(sum, 0);
                sumUp(which);
                settle(which);
            }
            return depths[which];
        }

        private void sumUp(int which) {
            switch (which) {
                case PI:
                    sumPi();
                    break;
                case E:
                    sumE();
                    break;
                case LOG_TWO:
                    sumLogTwo();
                    break;
                case CUBES:
                    sumCubes();
                    break;
                default:
                    break;
            }
        }

        /** Machin: 16 arctan(1/5) - 4 arctan(1/239), each by Euler's series x / (1 + x^2) * (1 + ...). */
        private void sumPi() {
            foldArctan(26, 47);
            fold(40, 13, 0);
            gather();
            foldArctan(57122, 158);
            fold(-478, 28561, 0);
            gather();
        }

        /** The ratios are 2k / ((2k + 1) * (1 + x^2)); bits are gained at least in tenths a term. */
        private void foldArctan(int squareAndOne, int tenths) {
            begin();
            for (int k = bitsNeeded() * 10 / tenths + 1; k >= 1; k--) {
                work[depth]++;
                fold(2 * k, (2 * k + 1) * squareAndOne, lowest(k * tenths / 10));
            }
            work[depth]++;
        }

        private void sumE() {
            begin();
            int bits = 0;
            int terms = 0;
            while (bits < bitsNeeded() && terms < bitsNeeded()) {
                terms++;
                bits += bitsOf(terms) - 1;
            }
            for (int k = terms; k >= 1; k--) {
                work[depth]++;
                fold(1, k, lowest(bits));
                bits -= bitsOf(k) - 1;
            }
            work[depth]++;
            gather();
        }

        /** 2 artanh(1/3) by Euler's series: 3/4 of the sum with the ratios -k / (4 * (2k + 1)). */
        private void sumLogTwo() {
            begin();
            for (int k = bitsNeeded() / 3 + 1; k >= 1; k--) {
                work[depth]++;
                fold(-k, 4 * (2 * k + 1), lowest(3 * k));
            }
            work[depth]++;
            fold(3, 4, 0);
            gather();
        }

        /**
         * Amdeberhan and Zeilberger: 1/64 of the sum of 205k^2 + 250k + 77
         * with the ratios -k^5 / (32 * (2k + 1)^5).
         */
        private void sumCubes() {
            begin();
            for (int k = bitsNeeded() / 10 + 1; k >= 1; k--) {
                int odd = 2 * k + 1;
                int low = lowest(10 * k);
                work[depth] += 205 * k * k + 250 * k + 77;
                fold(k * k, odd * odd, low);
                fold(k * k, odd * odd, low);
                fold(-k, 32 * odd, low);
            }
            work[depth] += 77;
            fold(1, 64, 0);
            gather();
        }

        private int bitsNeeded() {
            return depth * LIMB_BITS + SPARE_BITS;
        }

        /** The lowest limb that still matters when what is folded now will shrink by that many bits. */
        private int lowest(int bits) {
            return Math.min(depth, Math.max(0, bits / LIMB_BITS - 1));
        }

        private void begin() {
            Arrays.fill(work, 0);
        }

        /** Work times factor / divisor, from its limb low on; the divisor is above 0. */
        private void fold(int factor, int divisor, int low) {
            long rest = 0;
            for (int i = depth; i >= low; i--) {
                long now = (rest << LIMB_BITS) + work[i];
                long part = now / divisor;
                rest = now - part * divisor;
                work[i] = part * factor;
            }
        }

        private void gather() {
            for (int i = 0; i <= depth; i++) {
                sum[i] += work[i];
            }
        }

        /** One off at limb 1 makes a bound below of what may err either way. */
        private void settle(int which) {
            sum[1]--;
            int[] row = rows[which];
            long carry = 0;
            for (int i = 0; i <= depth; i++) {
                carry += sum[i];
                row[i] = (int) (carry & LIMB_MASK);
                carry >>= LIMB_BITS;
            }
            depths[which] = depth;
        }
    }
}
