import java.math.BigInteger;
import java.util.function.ToIntFunction;

/**
 * The boundary cases of the promises, sentence by sentence: the last input
 * that is allowed, and the first that is refused or answered otherwise; and
 * after each call what the text and the other then are.
 */
public final class EdgeTest {
    private static final BigInteger ZERO = BigInteger.ZERO;
    private static final BigInteger ONE = BigInteger.ONE;
    private static final BigInteger TWO = BigInteger.TWO;
    private static final BigInteger LONGEST = Stand.LONGEST;
    private static final BigInteger HALF = TWO.pow(12000);
    private static final int LEAST = Integer.MIN_VALUE;
    private static final int MOST = Integer.MAX_VALUE;

    public static void main(String[] args) {
        newObject();
        mill();
        rootArguments();
        rootRoundsDown();
        overArguments();
        overRoundsDown();
        number();
        pushDigits();
        pushLength();
        keep();
        swap();
        add();
        subtract();
        times();
        timesLong();
        divide();
        divideLong();
        rooted();
        convert();
        digit();
        about();
        countPlaces();
        countDigits();
        findArguments();
        findWidth();
        findPlaces();
        findZeros();
        compare();
        Check.end("EdgeTest");
    }

    private static BigInteger big(long a) {
        return BigInteger.valueOf(a);
    }

    private static void newObject() {
        Stand stand = Stand.fresh();
        stand.holds("1 new");
        stand.tells("1 both the same", 0, DigitMill::compare);
        stand.tells("1 the one digit", 0, x -> x.digit(0));
        stand.refusesPlace("1 no second digit", x -> x.digit(1));
        stand.refusesArgument("1 no digit of base 10", x -> x.push(10));
        stand.makes("1 a digit of base 10", big(9), x -> x.push(9));
    }

    private static void mill() {
        Stand stand = Stand.small(4711, 12, 815, 7);
        for (int wrong : new int[] {-1, 5, LEAST, MOST}) {
            stand.refusesArgument("2 constant " + wrong, x -> x.mill(wrong, 3, 10));
        }
        Stand next = Stand.small(4711, 12, 815, 7);
        for (int wrong : new int[] {-1, 6001, LEAST, MOST}) {
            next.refusesArgument("2 to " + wrong + " places", x -> x.mill(4, wrong, 2));
        }
        next.makes("2 to 0 places", ONE, 2, x -> x.mill(4, 0, 2));
        for (int which = 0; which < 5; which++) {
            int constant = which;
            BigInteger want = Model.constant(which, 6000, 2);
            Stand.small(4711, 12, 815, 7).makes("2 to 6000 places", want, 2, x -> x.mill(constant, 6000, 2));
        }
        room("2", (n, base) -> x -> x.mill(1, n, base), (n, base) -> Model.constant(1, n, base));
    }

    private interface ToPlaces {
        ToIntFunction<DigitMill> call(int n, int base);
    }

    private interface Want {
        BigInteger of(int n, int base);
    }

    /** n times L(base): 20000 is allowed, what is next above it is not. */
    private static void room(String promise, ToPlaces to, Want want) {
        int[][] last = {{5000, 9}, {5000, 16}, {4000, 17}, {4000, 32}, {3333, 33}, {3333, 36}};
        for (int[] l : last) {
            Stand stand = Stand.small(4711, 12, 815, 7);
            String what = promise + " base " + l[1] + " to " + l[0];
            stand.refusesUnsupported(what + " and one more", to.call(l[0] + 1, l[1]));
            stand.makes(what, want.of(l[0], l[1]), l[1], to.call(l[0], l[1]));
        }
    }

    private static void rootArguments() {
        Stand stand = Stand.small(4711, 12, 815, 7);
        stand.refusesArgument("3 of -1", x -> x.root(-1, 3, 10));
        stand.refusesArgument("3 of the least", x -> x.root(Long.MIN_VALUE, 3, 10));
        for (int wrong : new int[] {-1, 6001, LEAST, MOST}) {
            stand.refusesArgument("3 to " + wrong + " places", x -> x.root(2, wrong, 2));
        }
        stand.makes("3 of 0", ZERO, 10, x -> x.root(0, 3, 10));
        stand.makes("3 of 1", big(1000), 10, x -> x.root(1, 3, 10));
        stand.makes("3 to 0 places", ONE, 10, x -> x.root(2, 0, 10));
        stand.makes("3 of the greatest", big(3037000499L), 10, x -> x.root(Long.MAX_VALUE, 0, 10));
        Stand most = Stand.small(4711, 12, 815, 7);
        BigInteger scaled = big(Long.MAX_VALUE).shiftLeft(12000);
        most.makes("3 to 6000 places", scaled.sqrt(), 2, x -> x.root(Long.MAX_VALUE, 6000, 2));
        room("3", (n, base) -> x -> x.root(Long.MAX_VALUE, n, base),
            (n, base) -> big(Long.MAX_VALUE).multiply(big(base).pow(2 * n)).sqrt());
    }

    /** From a square up to the last number before the next one the root is the same. */
    private static void rootRoundsDown() {
        for (long k : new long[] {1, 2, 3, 10, 32767, 32768, 46340, 46341, 65535, 65536, 1 << 30, 3037000498L}) {
            Stand stand = Stand.small(4711, 12, 815, 7);
            stand.makes("3 before the square of " + k, big(k - 1), 7, x -> x.root(k * k - 1, 0, 7));
            stand.makes("3 the square of " + k, big(k), 7, x -> x.root(k * k, 0, 7));
            stand.makes("3 the last behind it", big(k), 7, x -> x.root(k * k + 2 * k, 0, 7));
            stand.makes("3 the next square", big(k + 1), 7, x -> x.root(k * k + 2 * k + 1, 0, 7));
            Stand far = Stand.small(4711, 12, 815, 7);
            BigInteger unit = big(36).pow(3333);
            far.makes("3 the square of " + k + " to many places", unit.multiply(big(k)), 36, x -> x.root(k * k, 3333, 36));
        }
    }

    private static void overArguments() {
        Stand stand = Stand.small(4711, 12, 815, 7);
        stand.refusesArgument("4 of -1", x -> x.over(-1, 1, 3, 10));
        stand.refusesArgument("4 of the least", x -> x.over(Long.MIN_VALUE, 1, 3, 10));
        stand.refusesArgument("4 by 0", x -> x.over(1, 0, 3, 10));
        stand.refusesArgument("4 by -1", x -> x.over(1, -1, 3, 10));
        stand.refusesArgument("4 by the least", x -> x.over(1, Long.MIN_VALUE, 3, 10));
        stand.refusesArgument("4 0 by 0", x -> x.over(0, 0, 3, 10));
        for (int wrong : new int[] {-1, 6001, LEAST, MOST}) {
            stand.refusesArgument("4 to " + wrong + " places", x -> x.over(1, 3, wrong, 2));
        }
        stand.makes("4 of 0", ZERO, 10, x -> x.over(0, 1, 3, 10));
        stand.makes("4 by 1", big(7000), 10, x -> x.over(7, 1, 3, 10));
        stand.makes("4 to 0 places", big(3), 10, x -> x.over(7, 2, 0, 10));
        Stand most = Stand.small(4711, 12, 815, 7);
        BigInteger scaled = big(Long.MAX_VALUE).shiftLeft(6000);
        most.makes("4 to 6000 places", scaled, 2, x -> x.over(Long.MAX_VALUE, 1, 6000, 2));
        room("4", (n, base) -> x -> x.over(Long.MAX_VALUE, 1, n, base),
            (n, base) -> big(Long.MAX_VALUE).multiply(big(base).pow(n)));
    }

    private static void overRoundsDown() {
        for (long b : new long[] {1, 2, 3, 7, (1 << 30) - 1, 1 << 30, (1 << 30) + 1, 3037000499L}) {
            Stand stand = Stand.small(4711, 12, 815, 7);
            stand.makes("4 before the multiple of " + b, big(b - 1), 7, x -> x.over(b * b - 1, b, 0, 7));
            stand.makes("4 the multiple of " + b, big(b), 7, x -> x.over(b * b, b, 0, 7));
            stand.makes("4 the last behind it", big(b), 7, x -> x.over(b * b + b - 1, b, 0, 7));
        }
        Stand stand = Stand.small(4711, 12, 815, 7);
        stand.makes("4 the least that is not 0", ONE, 10, x -> x.over(1, 1000, 3, 10));
        stand.makes("4 the next is 0", ZERO, 10, x -> x.over(1, 1001, 3, 10));
        stand.makes("4 the greatest by itself", ONE, 10, x -> x.over(Long.MAX_VALUE, Long.MAX_VALUE, 0, 10));
        stand.makes("4 one less", ZERO, 10, x -> x.over(Long.MAX_VALUE - 1, Long.MAX_VALUE, 0, 10));
        stand.makes("4 one less, a place more", big(9), 10, x -> x.over(Long.MAX_VALUE - 1, Long.MAX_VALUE, 1, 10));
    }

    /** In each base the last number of so many digits, and the first of one more. */
    private static void number() {
        for (int base = 2; base <= 36; base++) {
            int b = base;
            DigitMill x = new DigitMill();
            long power = 1;
            for (int digits = 1; power <= Long.MAX_VALUE / base; digits++) {
                power *= base;
                long first = power;
                Check.due("5 last of " + digits, digits, () -> x.number(first - 1, b));
                Check.due("5 its sum", digits * (b - 1), () -> x.about(3));
                Check.due("5 first of more than " + digits, digits + 1, () -> x.number(first, b));
                Check.due("5 its sum", 1, () -> x.about(3));
            }
        }
        Stand stand = Stand.small(4711, 12, 815, 7);
        stand.refusesArgument("5 of -1", x -> x.number(-1, 10));
        stand.refusesArgument("5 of the least", x -> x.number(Long.MIN_VALUE, 10));
        stand.refusesArgument("5 in base 1", x -> x.number(0, 1));
        stand.refusesArgument("5 in base 37", x -> x.number(0, 37));
        stand.makes("5 of 0", ZERO, 2, x -> x.number(0, 2));
        stand.makes("5 of the greatest", big(Long.MAX_VALUE), 36, x -> x.number(Long.MAX_VALUE, 36));
    }

    private static void pushDigits() {
        for (int base = 2; base <= 36; base++) {
            int b = base;
            Stand stand = Stand.small(0, base, 815, 7);
            for (int wrong : new int[] {-1, b, LEAST, MOST}) {
                stand.refusesArgument("6 digit " + wrong + " in base " + b, x -> x.push(wrong));
            }
            stand.makes("6 behind 0", ZERO, x -> x.push(0));
            stand.makes("6 behind 0", big(b - 1), x -> x.push(b - 1));
            stand.makes("6 behind a digit", big((long) b * (b - 1)), x -> x.push(0));
            stand.makes("6 behind two", big((long) b * b * (b - 1) + b - 1), x -> x.push(b - 1));
        }
    }

    /** In each base the push that makes 2^24000 - 1, and the one that would make 2^24000 or what comes next. */
    private static void pushLength() {
        for (int base = 2; base <= 36; base++) {
            int b = base;
            int last = LONGEST.mod(big(base)).intValue();
            if (last < base - 1) {
                Stand.partOfLongest(base, 0, base).refusesUnsupported("6 2^24000 in base " + b, x -> x.push(last + 1));
            } else {
                Stand.partOfLongest(base, 1, base).refusesUnsupported("6 2^24000 in base " + b, x -> x.push(0));
            }
            Stand.partOfLongest(base, 0, base).makes("6 the longest in base " + b, LONGEST, x -> x.push(last));
        }
    }

    private static void keep() {
        Stand stand = Stand.small(4711, 12, 815, 7);
        keeps("7 small", stand);
        stand.makes("7 the text goes on", big(4711 * 12 + 11), x -> x.push(11));
        stand.makes("7 in another base", big(4711 * 12 + 11), 5, x -> x.convert(5));
        stand.mill.swap();
        stand.swapped();
        stand.makes("7 the other goes on", big(4711 * 12 + 1), x -> x.push(1));
        keeps("7 0", Stand.small(0, 36, 815, 7));
        keeps("7 at first", Stand.fresh());
        keeps("7 the longest", Stand.nearLongest(0, 33, 815, 7));
        keeps("7 after a division", Stand.divided());
    }

    private static void keeps(String what, Stand stand) {
        stand.mill.keep();
        stand.other = stand.text;
        stand.otherBase = stand.base;
        stand.holds(what);
        stand.mill.keep();
        stand.holds(what + ", again");
    }

    private static void swap() {
        swaps("8 small", Stand.small(4711, 12, 815, 7));
        swaps("8 0 and the greatest", Stand.small(0, 36, Long.MAX_VALUE, 2));
        swaps("8 at first", Stand.fresh());
        swaps("8 the longest", Stand.nearLongest(0, 2, 0, 36));
        swaps("8 after a division", Stand.divided());
    }

    private static void swaps(String what, Stand stand) {
        stand.swapped();
        stand.tells(what, stand.digits().length(), DigitMill::swap);
        stand.holds(what);
        stand.swapped();
        stand.tells(what + ", back", stand.digits().length(), DigitMill::swap);
        stand.holds(what + ", back");
    }

    private static void add() {
        Stand.nearLongest(5, 10, 5, 2).makes("9 the longest", LONGEST, DigitMill::add);
        Stand.nearLongest(5, 10, 6, 2).refusesUnsupported("9 longer", DigitMill::add);
        Stand.nearLongest(0, 10, 0, 2).makes("9 the longest and 0", LONGEST, DigitMill::add);
        Stand.nearLongest(0, 10, 1, 2).refusesUnsupported("9 the longest and 1", DigitMill::add);
        Stand few = swapped(Stand.nearLongest(5, 2, 5, 36));
        few.makes("9 the other is nearly the longest", LONGEST, DigitMill::add);
        swapped(Stand.nearLongest(5, 2, 6, 36)).refusesUnsupported("9 the other is too long", DigitMill::add);
        Stand.power(23999).refusesUnsupported("9 twice 2^23999", DigitMill::add);
        Stand.power(23998).makes("9 twice 2^23998", TWO.pow(23999), DigitMill::add);
        Stand.small(0, 36, 0, 2).makes("9 0 and 0", ZERO, DigitMill::add);
        Stand.small(0, 36, 5, 2).makes("9 0 and 5", big(5), DigitMill::add);
        Stand.small(Long.MAX_VALUE, 2, 1, 36).makes("9 2^63", TWO.pow(63), DigitMill::add);
    }

    private static Stand swapped(Stand stand) {
        stand.mill.swap();
        stand.swapped();
        return stand;
    }

    private static void subtract() {
        Stand.small(815, 7, 814, 36).makes("10 one less", ONE, DigitMill::subtract);
        Stand.small(815, 7, 815, 36).makes("10 the same", ZERO, DigitMill::subtract);
        Stand.small(815, 7, 816, 36).refusesArithmetic("10 one more", DigitMill::subtract);
        Stand.small(0, 7, 0, 36).makes("10 0 less 0", ZERO, DigitMill::subtract);
        Stand.small(0, 7, 1, 36).refusesArithmetic("10 0 less 1", DigitMill::subtract);
        Stand.small(815, 7, 0, 36).makes("10 less 0", big(815), DigitMill::subtract);
        Stand.nearLongest(0, 10, 1, 2).makes("10 the longest less 1", LONGEST.subtract(ONE), DigitMill::subtract);
        swapped(Stand.nearLongest(0, 10, 1, 2)).refusesArithmetic("10 1 less the longest", DigitMill::subtract);
        Stand same = Stand.power(23999);
        same.putOther(1, 2);
        same.makes("10 borrows all the way", TWO.pow(23999).subtract(ONE), DigitMill::subtract);
        Stand.power(23999).makes("10 the same power", ZERO, DigitMill::subtract);
        Stand by = Stand.factors();
        by.makes("10 long ones", TWO, DigitMill::subtract);
        swapped(Stand.factors()).refusesArithmetic("10 long ones, the other greater", DigitMill::subtract);
    }

    /** Each small factor with the last text that it may multiply, and the first that it may not. */
    private static void times() {
        for (int factor = 2; factor <= 36; factor++) {
            Stand last = Stand.partOfLongest(factor, 0, 36);
            last.makes("11 last by " + factor, last.text.multiply(last.other), DigitMill::times);
            Stand.partOfLongest(factor, 1, 36).refusesUnsupported("11 first by " + factor, DigitMill::times);
            swapped(Stand.partOfLongest(factor, 1, 36)).refusesUnsupported("11 first times " + factor, DigitMill::times);
        }
    }

    private static void timesLong() {
        Stand.factors().makes("11 the longest", LONGEST, DigitMill::times);
        swapped(Stand.factors()).makes("11 the longest", LONGEST, DigitMill::times);
        Stand.power(12000).refusesUnsupported("11 2^24000", DigitMill::times);
        Stand.power(11999).makes("11 2^23998", TWO.pow(23998), DigitMill::times);
        Stand shorter = Stand.power(11999);
        shorter.makes("11 2^12000", HALF, x -> x.push(0));
        shorter.makes("11 2^23999", TWO.pow(23999), DigitMill::times);
        // 12000 bits and 12001, as the factors of the longest have, and yet one bit too many.
        Stand ones = Stand.factors();
        ones.mill.swap();
        ones.mill.keep();
        ones.mill.push(1);
        ones.text = TWO.pow(12001).subtract(ONE);
        ones.refusesUnsupported("11 24001 bits", DigitMill::times);
        Stand.nearLongest(0, 7, 1, 2).makes("11 the longest by 1", LONGEST, DigitMill::times);
        Stand.nearLongest(0, 7, 2, 2).refusesUnsupported("11 the longest by 2", DigitMill::times);
        Stand.nearLongest(0, 7, 0, 2).makes("11 the longest by 0", ZERO, DigitMill::times);
        swapped(Stand.nearLongest(0, 7, 0, 2)).makes("11 0 by the longest", ZERO, DigitMill::times);
        Stand.small(0, 7, 0, 2).makes("11 0 by 0", ZERO, DigitMill::times);
        Stand.small(1, 7, 1, 2).makes("11 1 by 1", ONE, DigitMill::times);
    }

    private static void divide() {
        Stand.fresh().refusesArithmetic("12 0 by 0", DigitMill::divide);
        Stand.small(815, 7, 0, 36).refusesArithmetic("12 by 0", DigitMill::divide);
        divides("12 by 1", Stand.small(815, 7, 1, 36));
        divides("12 by one less", Stand.small(815, 7, 814, 36));
        divides("12 by itself", Stand.small(815, 7, 815, 36));
        divides("12 by one more", Stand.small(815, 7, 816, 36));
        divides("12 0", Stand.small(0, 7, 5, 36));
        for (long b : new long[] {2, 3, 36, (1 << 30) - 1, 1 << 30, (1 << 30) + 1, 3037000499L}) {
            divides("12 one before a multiple of " + b, Stand.small(b * b - 1, 7, b, 36));
            divides("12 a multiple of " + b, Stand.small(b * b, 7, b, 36));
        }
    }

    /** The quotient stands in the text's base, and what is left in the other's. */
    private static void divides(String what, Stand stand) {
        BigInteger[] both = stand.text.divideAndRemainder(stand.other);
        stand.makesBoth(what, both[0], stand.base, both[1], DigitMill::divide);
    }

    private static void divideLong() {
        Stand.nearLongest(0, 7, 0, 36).refusesArithmetic("12 the longest by 0", DigitMill::divide);
        divides("12 the longest by 1", Stand.nearLongest(0, 7, 1, 36));
        divides("12 the longest by 2", Stand.nearLongest(0, 7, 2, 36));
        divides("12 a few by the longest", swapped(Stand.nearLongest(0, 7, 815, 36)));
        divides("12 0 by the longest", swapped(Stand.nearLongest(0, 7, 0, 36)));
        Stand same = Stand.nearLongest(0, 7, 1, 36);
        same.mill.keep();
        same.other = LONGEST;
        same.otherBase = 7;
        divides("12 the longest by itself", same);
        Stand.factors().makesBoth("12 one by one near it", ONE, 2, TWO, DigitMill::divide);
        divides("12 by one greater", swapped(Stand.factors()));
        Stand exact = productAndFactor(0);
        exact.makesBoth("12 no rest", HALF.add(ONE), 2, ZERO, DigitMill::divide);
        exact.refusesArithmetic("12 by the rest 0", DigitMill::divide);
        Stand most = productAndFactor(1);
        most.makesBoth("12 the greatest rest", HALF, 2, HALF.subtract(TWO), DigitMill::divide);
    }

    /** The text is the longest number less some; the other its root, 2^12000 - 1. */
    private static Stand productAndFactor(int less) {
        Stand made = Stand.nearLongest(less, 2, 1, 2);
        made.mill.keep();
        made.mill.rooted();
        made.mill.swap();
        made.other = HALF.subtract(ONE);
        made.holds("12 a product and its factor");
        return made;
    }

    private static void rooted() {
        for (long k : new long[] {1, 2, 3, 10, 46340, 46341, 65536, (1 << 30) - 1, 1 << 30, 3037000498L}) {
            Stand.small(k * k - 1, 7, 5, 36).makes("13 before the square of " + k, big(k - 1), DigitMill::rooted);
            Stand.small(k * k, 7, 5, 36).makes("13 the square of " + k, big(k), DigitMill::rooted);
            Stand.small(k * k + 2 * k, 7, 5, 36).makes("13 the last behind it", big(k), DigitMill::rooted);
            Stand.small(k * k + 2 * k + 1, 7, 5, 36).makes("13 the next square", big(k + 1), DigitMill::rooted);
        }
        Stand.small(0, 7, 5, 36).makes("13 of 0", ZERO, DigitMill::rooted);
        Stand.fresh().makes("13 at first", ZERO, DigitMill::rooted);
        Stand.nearLongest(0, 7, 5, 36).makes("13 of the longest", HALF.subtract(ONE), DigitMill::rooted);
        rootOfLongSquare(0, 1);
        rootOfLongSquare(1, 2);
        Stand.power(23998).makes("13 of 2^23998", TWO.pow(11999), DigitMill::rooted);
        Stand.power(23999).makes("13 of 2^23999", TWO.pow(23999).sqrt(), DigitMill::rooted);
    }

    /** The square of 2^12000 - 1, less some, and how far its root is below 2^12000. */
    private static void rootOfLongSquare(int less, int below) {
        Stand stand = swapped(Stand.factors());
        stand.mill.keep();
        stand.mill.times();
        stand.putOther(less, 2);
        stand.mill.subtract();
        stand.makes("13 near a long square", HALF.subtract(big(below)), DigitMill::rooted);
    }

    private static void convert() {
        for (int wrong : new int[] {1, 37, 0, -1, LEAST, MOST}) {
            Stand.small(4711, 12, 815, 7).refusesArgument("14 to base " + wrong, x -> x.convert(wrong));
            Stand.fresh().refusesArgument("14 at first, to base " + wrong, x -> x.convert(wrong));
        }
        for (int base = 2; base <= 36; base++) {
            int b = base;
            Stand.small(0, 12, 815, 7).makes("14 0 in base " + b, ZERO, b, x -> x.convert(b));
            Stand.small(b - 1, 12, 815, 7).makes("14 the last digit of base " + b, big(b - 1), b, x -> x.convert(b));
            Stand.small(b, 12, 815, 7).makes("14 base " + b + " itself", big(b), b, x -> x.convert(b));
            Stand longest = Stand.nearLongest(0, 10, 815, 7);
            longest.makes("14 the longest in base " + b, LONGEST, b, x -> x.convert(b));
            longest.makes("14 in the same base " + b, LONGEST, b, x -> x.convert(b));
        }
    }

    private static void digit() {
        digitEnds("15 at first", Stand.fresh());
        digitEnds("15 one digit", Stand.small(35, 36, 815, 7));
        digitEnds("15 two digits", Stand.small(36, 36, 815, 7));
        digitEnds("15 a constant", Stand.constants());
        digitEnds("15 the longest, base 2", Stand.nearLongest(0, 2, 815, 7));
        digitEnds("15 the longest, base 33", Stand.nearLongest(0, 33, 815, 7));
    }

    private static void digitEnds(String what, Stand stand) {
        String digits = stand.digits();
        int last = digits.length() - 1;
        stand.refusesPlace(what + ", before the first", x -> x.digit(-1));
        stand.tells(what + ", the first", Character.digit(digits.charAt(0), 36), x -> x.digit(0));
        stand.tells(what + ", the last", Character.digit(digits.charAt(last), 36), x -> x.digit(last));
        stand.refusesPlace(what + ", behind the last", x -> x.digit(last + 1));
        stand.refusesPlace(what + ", the least place", x -> x.digit(LEAST));
        stand.refusesPlace(what + ", the greatest place", x -> x.digit(MOST));
        stand.holds(what);
    }

    private static void about() {
        for (int wrong : new int[] {-1, 4, LEAST, MOST}) {
            Stand.small(4711, 12, 815, 7).refusesArgument("16 about " + wrong, x -> x.about(wrong));
        }
        abouts("16 at first", Stand.fresh(), 1, 0, 10, 0);
        abouts("16 0", Stand.small(0, 2, 815, 7), 1, 0, 2, 0);
        abouts("16 1", Stand.small(1, 36, 815, 7), 1, 1, 36, 1);
        abouts("16 35", Stand.small(35, 36, 815, 7), 1, 6, 36, 35);
        abouts("16 36", Stand.small(36, 36, 815, 7), 2, 6, 36, 1);
        abouts("16 63", Stand.small(63, 2, 815, 7), 6, 6, 2, 6);
        abouts("16 64", Stand.small(64, 2, 815, 7), 7, 7, 2, 1);
        abouts("16 the longest, base 2", Stand.nearLongest(0, 2, 815, 7), 24000, 24000, 2, 24000);
        abouts("16 the longest, base 16", Stand.nearLongest(0, 16, 815, 7), 6000, 24000, 16, 90000);
        abouts("16 2^23999", Stand.power(23999), 24000, 24000, 2, 1);
    }

    private static void abouts(String what, Stand stand, int digits, int length, int base, int sum) {
        stand.tells(what + ", digits", digits, x -> x.about(0));
        stand.tells(what + ", length", length, x -> x.about(1));
        stand.tells(what + ", base", base, x -> x.about(2));
        stand.tells(what + ", sum", sum, x -> x.about(3));
        stand.holds(what);
    }

    /** Of ones alone, so that what is counted is how many places there are from i to k. */
    private static void countPlaces() {
        Stand stand = Stand.small(111111, 10, 815, 7);
        stand.refusesPlace("17 i -1", x -> x.count(1, -1, 5));
        stand.tells("17 from 0 to the last", 6, x -> x.count(1, 0, 5));
        stand.refusesPlace("17 k behind the last", x -> x.count(1, 0, 6));
        stand.tells("17 from 0 to 0", 1, x -> x.count(1, 0, 0));
        stand.tells("17 from the last to the last", 1, x -> x.count(1, 5, 5));
        stand.tells("17 from 2 to 3", 2, x -> x.count(1, 2, 3));
        stand.tells("17 i the same as k", 1, x -> x.count(1, 3, 3));
        stand.tells("17 i above k", 0, x -> x.count(1, 4, 3));
        stand.tells("17 i behind the last", 0, x -> x.count(1, 6, 5));
        stand.refusesPlace("17 both behind the last", x -> x.count(1, 6, 6));
        stand.tells("17 k -1", 0, x -> x.count(1, 0, -1));
        stand.refusesPlace("17 both -1", x -> x.count(1, -1, -1));
        stand.tells("17 the greatest i", 0, x -> x.count(1, MOST, 5));
        stand.tells("17 the least k", 0, x -> x.count(1, 0, LEAST));
        stand.tells("17 the greatest i, the least k", 0, x -> x.count(1, MOST, LEAST));
        Stand next = Stand.small(111111, 10, 815, 7);
        next.refusesPlace("17 the least i", x -> x.count(1, LEAST, 5));
        next.refusesPlace("17 the least of both", x -> x.count(1, LEAST, LEAST));
        next.refusesPlace("17 the greatest k", x -> x.count(1, 0, MOST));
        next.refusesPlace("17 the greatest of both", x -> x.count(1, MOST, MOST));
        next.refusesPlace("17 no digit, and k behind the last", x -> x.count(10, 0, 6));
        Stand longest = Stand.nearLongest(0, 2, 815, 7);
        longest.tells("17 in the longest", 24000, x -> x.count(1, 0, 23999));
        longest.tells("17 but for both ends", 23998, x -> x.count(1, 1, 23998));
        longest.refusesPlace("17 behind the longest", x -> x.count(1, 0, 24000));
    }

    private static void countDigits() {
        for (int base = 2; base <= 36; base++) {
            int b = base;
            Stand stand = Stand.small((long) b * (b - 1), base, 815, 7);
            stand.tells("17 digit -1 in base " + b, 0, x -> x.count(-1, 0, 1));
            stand.tells("17 digit 0 in base " + b, 1, x -> x.count(0, 0, 1));
            stand.tells("17 the last digit of base " + b, 1, x -> x.count(b - 1, 0, 1));
            stand.tells("17 the first that is none of base " + b, 0, x -> x.count(b, 0, 1));
            stand.tells("17 the least digit", 0, x -> x.count(LEAST, 0, 1));
            stand.tells("17 the greatest digit", 0, x -> x.count(MOST, 0, 1));
            stand.holds("17 counting changes nothing");
        }
        Stand.fresh().tells("17 at first", 1, x -> x.count(0, 0, 0));
        Stand.fresh().refusesPlace("17 at first", x -> x.count(0, 0, 1));
    }

    private static void findArguments() {
        Stand stand = Stand.small(100000000000L, 10, 815, 7);
        for (int wrong : new int[] {0, 13, -1, LEAST, MOST}) {
            stand.refusesArgument("18 n " + wrong, x -> x.find(0, wrong, 0));
        }
        stand.tells("18 n 1", 1, x -> x.find(0, 1, 0));
        stand.tells("18 n 11", 1, x -> x.find(0, 11, 0));
        stand.tells("18 n 12", -1, x -> x.find(0, 12, 0));
        stand.tells("18 n 12", 0, x -> x.find(100000000000L, 12, 0));
        stand.refusesArgument("18 a -1", x -> x.find(-1, 12, 0));
        stand.refusesArgument("18 the least a", x -> x.find(Long.MIN_VALUE, 12, 0));
        stand.refusesArgument("18 the greatest a", x -> x.find(Long.MAX_VALUE, 12, 0));
        Stand next = Stand.small(100000000000L, 10, 815, 7);
        next.refusesArgument("18 i -1", x -> x.find(1, 1, -1));
        next.refusesArgument("18 the least i", x -> x.find(1, 1, LEAST));
        next.tells("18 i 0", 0, x -> x.find(1, 1, 0));
        next.tells("18 the greatest i", DigitMill.NONE, x -> x.find(1, 1, MOST));
        next.refusesArgument("18 a too long, and i behind the last", x -> x.find(10, 1, MOST));
    }

    /** In each base and for each n the greatest a of n digits, which the text has, and the first of one more. */
    private static void findWidth() {
        for (int base = 2; base <= 36; base++) {
            Stand stand = Stand.small(base, base, 815, 7);
            for (int i = 0; i < 12; i++) {
                stand.text = stand.text.multiply(big(base)).add(big(base - 1));
                stand.mill.push(base - 1);
            }
            long power = 1;
            for (int n = 1; n <= 12; n++) {
                int wide = n;
                power *= base;
                long first = power;
                stand.tells("18 the last of " + n + " in base " + base, 2, x -> x.find(first - 1, wide, 1));
                Check.wrongArgument("18 more than " + n + " in base " + base, () -> stand.mill.find(first, wide, 0));
            }
            stand.holds("18 looking changes nothing");
        }
    }

    private static void findPlaces() {
        Stand stand = Stand.small(1211112, 10, 815, 7);
        stand.tells("18 from 0", 0, x -> x.find(12, 2, 0));
        stand.tells("18 from 1", 5, x -> x.find(12, 2, 1));
        stand.tells("18 from where it stands", 5, x -> x.find(12, 2, 5));
        stand.tells("18 too near the end", -1, x -> x.find(12, 2, 6));
        stand.tells("18 behind the last", -1, x -> x.find(12, 2, 7));
        stand.tells("18 the last digit", 6, x -> x.find(2, 1, 6));
        stand.tells("18 behind the last", -1, x -> x.find(2, 1, 7));
        stand.tells("18 one over another", 2, x -> x.find(111, 3, 0));
        stand.tells("18 one over another, the next", 3, x -> x.find(111, 3, 3));
        stand.tells("18 no third", -1, x -> x.find(111, 3, 4));
        stand.tells("18 the whole text", 0, x -> x.find(1211112, 7, 0));
        stand.tells("18 the whole text from 1", -1, x -> x.find(1211112, 7, 1));
        stand.tells("18 wider than the text", -1, x -> x.find(1211112, 8, 0));
        stand.tells("18 not there", -1, x -> x.find(3, 1, 0));
        stand.holds("18 looking changes nothing");
        Stand longest = Stand.nearLongest(1, 2, 815, 7);
        longest.tells("18 at the end of the longest", 23988, x -> x.find(4094, 12, 0));
        longest.tells("18 from there", 23988, x -> x.find(4094, 12, 23988));
        longest.tells("18 too near the end", -1, x -> x.find(4094, 12, 23989));
        longest.tells("18 its one 0", 23999, x -> x.find(0, 1, 0));
    }

    private static void findZeros() {
        Stand stand = Stand.small(5007, 10, 815, 7);
        stand.tells("18 no zero in front", 3, x -> x.find(7, 1, 0));
        stand.tells("18 one zero in front", 2, x -> x.find(7, 2, 0));
        stand.tells("18 two zeros in front", 1, x -> x.find(7, 3, 0));
        stand.tells("18 not three", -1, x -> x.find(7, 4, 0));
        stand.tells("18 zeros alone", 1, x -> x.find(0, 2, 0));
        stand.tells("18 not so many", -1, x -> x.find(0, 3, 0));
        stand.tells("18 no zeros before the text", -1, x -> x.find(5, 2, 0));
        stand.tells("18 none before the whole text", -1, x -> x.find(5007, 5, 0));
        stand.holds("18 looking for zeros changes nothing");
        Stand zero = Stand.fresh();
        zero.tells("18 0 in 0", 0, x -> x.find(0, 1, 0));
        zero.tells("18 behind 0", -1, x -> x.find(0, 1, 1));
        zero.tells("18 two zeros in 0", -1, x -> x.find(0, 2, 0));
    }

    private static void compare() {
        compares("19 at first", 0, Stand.fresh());
        compares("19 0 and 1", -1, Stand.small(0, 2, 1, 36));
        compares("19 1 and 0", 1, Stand.small(1, 2, 0, 36));
        compares("19 one less", -1, Stand.small(814, 2, 815, 36));
        compares("19 the same in other bases", 0, Stand.small(815, 2, 815, 36));
        compares("19 one more", 1, Stand.small(816, 2, 815, 36));
        compares("19 fewer digits, and yet more", 1, Stand.small(35, 36, 34, 2));
        compares("19 far more", 1, Stand.nearLongest(0, 10, Long.MAX_VALUE, 2));
        compares("19 far less", -1, swapped(Stand.nearLongest(0, 10, Long.MAX_VALUE, 2)));
        compares("19 two more", 1, Stand.factors());
        compares("19 two less", -1, swapped(Stand.factors()));
        compares("19 the same power", 0, Stand.power(23999));
        Stand kept = Stand.power(23999);
        kept.putOther(1, 2);
        kept.mill.subtract();
        kept.mill.keep();
        kept.text = TWO.pow(23999).subtract(ONE);
        kept.other = kept.text;
        compares("19 the same ones", 0, kept);
        kept.makes("19 one digit more", LONGEST, x -> x.push(1));
        compares("19 one bit longer", 1, kept);
    }

    private static void compares(String what, int want, Stand stand) {
        stand.tells(what, want, DigitMill::compare);
        stand.holds(what);
    }
}
