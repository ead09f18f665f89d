import java.math.BigInteger;
import java.util.function.ToIntFunction;

/**
 * The boundary cases of the document's "Terms", sentence by sentence: the last
 * input that is allowed, and the first that is refused or answered otherwise.
 */
public final class TermsTest {
    private static final BigInteger ZERO = BigInteger.ZERO;
    private static final int[] LARGEST_OF_L = {2, 4, 8, 16, 32, 36};

    public static void main(String[] args) {
        basesAreTwoToThirtySix();
        numbersAreNotBelowZero();
        digitsBeginWithTheHighest();
        for (int base = 2; base <= 36; base++) {
            zeroHasOneDigit(base);
            zeroByArithmetic(base);
        }
        lengthIsHowManyBits();
        lengthOfLongNumbers();
        lengthIsAtMost24000();
        textAndOtherAtFirst();
        constantsByNumber();
        placesAreRoundedDown();
        nines();
        for (int which = 0; which < 5; which++) {
            mostPlacesOfConstant(which);
        }
        mostPlacesOfRootAndQuotient();
        firstNamedException();
        answersHowManyDigits();
        Check.end("TermsTest");
    }

    /** The five calls that take a base, each with the last allowed and the first refused at both ends. */
    private static void basesAreTwoToThirtySix() {
        baseEnds("mill", 3, base -> x -> x.mill(0, 0, base));
        baseEnds("root", 3, base -> x -> x.root(9, 0, base));
        baseEnds("over", 3, base -> x -> x.over(9, 3, 0, base));
        baseEnds("number", 3, base -> x -> x.number(3, base));
        Stand three = Stand.small(3, 10, 5, 6);
        three.makes("convert to base 2", BigInteger.valueOf(3), 2, x -> x.convert(2));
        three.refusesArgument("convert to base 1", x -> x.convert(1));
        three.makes("convert to base 36", BigInteger.valueOf(3), 36, x -> x.convert(36));
        three.refusesArgument("convert to base 37", x -> x.convert(37));
    }

    private interface InBase {
        ToIntFunction<DigitMill> call(int base);
    }

    private static void baseEnds(String name, int want, InBase in) {
        Stand stand = Stand.small(4711, 12, 815, 7);
        for (int wrong : new int[] {1, 37, 0, -2, Integer.MAX_VALUE, Integer.MIN_VALUE}) {
            stand.refusesArgument(name + " in base " + wrong, in.call(wrong));
        }
        stand.makes(name + " in base 2", BigInteger.valueOf(want), 2, in.call(2));
        stand.makes(name + " in base 36", BigInteger.valueOf(want), 36, in.call(36));
    }

    private static void numbersAreNotBelowZero() {
        Stand stand = Stand.small(1, 10, 1, 10);
        stand.makes("1 less 1", ZERO, DigitMill::subtract);
        stand.refusesArithmetic("0 less 1", DigitMill::subtract);
        stand.makes("0", ZERO, x -> x.number(0, 10));
        stand.refusesArgument("-1", x -> x.number(-1, 10));
    }

    private static void digitsBeginWithTheHighest() {
        for (int base = 2; base <= 36; base++) {
            int b = base;
            Stand stand = Stand.small((long) b * b + b - 1, base, 0, 10);
            stand.refusesPlace("before the highest", x -> x.digit(-1));
            stand.tells("the highest in base " + base, 1, x -> x.digit(0));
            stand.tells("the middle in base " + base, 0, x -> x.digit(1));
            stand.tells("the lowest in base " + base, b - 1, x -> x.digit(2));
            stand.refusesPlace("behind the lowest", x -> x.digit(3));
        }
    }

    private static void zeroHasOneDigit(int base) {
        zero("new, told in base " + base, Stand.fresh(), base, x -> x.convert(base));
        Stand one = Stand.small(1, 10, 7, 8);
        zero("number", one, base, x -> x.number(0, base));
        zero("root", one, base, x -> x.root(0, 3000, base));
        zero("over", one, base, x -> x.over(0, 5, 3000, base));
        zero("logarithm to no places", one, base, x -> x.mill(3, 0, base));
        zero("root to no places", Stand.small(1, 10, 7, 8), base, x -> x.root(0, 0, base));
        zero("a quotient below 1", Stand.small(1, 10, 7, 8), base, x -> x.over(1, base + 1, 1, base));
        Stand digitOne = Stand.small(0, base, 0, 10);
        digitOne.makes("1 is the first number that is not 0", BigInteger.ONE, x -> x.push(1));
        digitOne.tells("its length", 1, x -> x.about(1));
        digitOne.makes("a 0 behind another digit counts", BigInteger.valueOf(base), x -> x.push(0));
        digitOne.tells("its digits", 2, x -> x.about(0));
    }

    private static void zeroByArithmetic(int base) {
        zero("0 behind 0", Stand.small(0, base, 9, 10), base, x -> x.push(0));
        zero("0 and 0", Stand.small(0, base, 0, 10), base, DigitMill::add);
        zero("less itself", Stand.small(77, base, 77, 10), base, DigitMill::subtract);
        zero("times 0", Stand.small(77, base, 0, 10), base, DigitMill::times);
        zero("0 times", Stand.small(0, base, 77, 10), base, DigitMill::times);
        zero("0 over", Stand.small(0, base, 77, 10), base, x -> {
            int digits = x.divide();
            x.swap();
            x.number(77, 10);
            x.swap();
            return digits;
        });
        zero("root of 0", Stand.small(0, base, 77, 10), base, DigitMill::rooted);
        Stand less = Stand.small(76, base, 77, 10);
        less.makesBoth("less than the other", ZERO, base, BigInteger.valueOf(76), DigitMill::divide);
        Stand whole = Stand.small(77, 10, 7, base);
        whole.makesBoth("nothing left", BigInteger.valueOf(11), 10, ZERO, DigitMill::divide);
        whole.swapped();
        zero("what is left", whole, base, DigitMill::swap);
    }

    private static void zero(String what, Stand stand, int base, ToIntFunction<DigitMill> call) {
        stand.makes(what + ", base " + base, ZERO, base, call);
        stand.tells(what + ": its one digit", 0, x -> x.digit(0));
        Check.outOfBounds(what + ": no digit behind", () -> stand.mill.digit(1));
        stand.tells(what + ": its length", 0, x -> x.about(1));
        stand.tells(what + ": its sum", 0, x -> x.about(3));
        stand.tells(what + ": counted", 1, x -> x.count(0, 0, 0));
        stand.tells(what + ": found", 0, x -> x.find(0, 1, 0));
    }

    private static void lengthIsHowManyBits() {
        Stand stand = Stand.fresh();
        stand.tells("length of 0", 0, x -> x.about(1));
        for (int bits = 1; bits <= 62; bits++) {
            int b = bits;
            stand.mill.number((1L << bits) - 1, 10);
            stand.tells("length of 2^" + bits + " - 1", b, x -> x.about(1));
            stand.mill.number(1L << bits, 10);
            stand.tells("length of 2^" + bits, b + 1, x -> x.about(1));
        }
        stand.mill.number(Long.MAX_VALUE, 10);
        stand.tells("length of 2^63 - 1", 63, x -> x.about(1));
    }

    private static void lengthOfLongNumbers() {
        for (int bits : new int[] {29, 30, 31, 32, 59, 60, 61, 63, 64, 89, 90, 91, 5969, 5970, 5971, 5999, 6000}) {
            Stand stand = Stand.fresh();
            BigInteger power = BigInteger.TWO.pow(bits);
            stand.makes("2^" + bits, power, 2, x -> x.over(1, 1, bits, 2));
            stand.tells("length of 2^" + bits, bits + 1, x -> x.about(1));
            stand.putOther(1, 10);
            stand.makes("2^" + bits + " - 1", power.subtract(BigInteger.ONE), DigitMill::subtract);
            stand.tells("length of 2^" + bits + " - 1", bits, x -> x.about(1));
        }
    }

    /** By each call that could make more: 2^24000 - 1 is made, 2^24000 is not. */
    private static void lengthIsAtMost24000() {
        Stand longest = Stand.nearLongest(0, 2, 0, 10);
        longest.holds("the longest number");
        longest.tells("its length", 24000, x -> x.about(1));
        longest.makes("and 0", Stand.LONGEST, DigitMill::add);
        longest.refusesUnsupported("a digit more", x -> x.push(0));
        Stand sum = Stand.nearLongest(1, 10, 1, 10);
        sum.makes("2^24000 - 2 and 1", Stand.LONGEST, DigitMill::add);
        sum.refusesUnsupported("2^24000 - 1 and 1", DigitMill::add);
        Stand.factors().makes("2^24000 - 1 as a product", Stand.LONGEST, DigitMill::times);
        Stand.power(12000).refusesUnsupported("2^24000 as a product", DigitMill::times);
        Stand half = Stand.partOfLongest(2, 0, 2);
        half.makes("2^24000 - 1 by a push", Stand.LONGEST, x -> x.push(1));
        Stand.partOfLongest(2, 1, 2).refusesUnsupported("2^24000 by a push", x -> x.push(0));
    }

    private static void textAndOtherAtFirst() {
        Stand used = Stand.nearLongest(0, 36, 77, 7);
        Stand.fresh().holds("at first 0 and 10, whatever another object holds");
        used.holds("and the other way round");
    }

    private static void constantsByNumber() {
        String[] known = {"31415926535", "27182818284", "16180339887", "6931471805", "12020569031"};
        Stand stand = Stand.small(4711, 12, 815, 7);
        stand.refusesArgument("constant -1", x -> x.mill(-1, 10, 10));
        for (int which = 0; which < 5; which++) {
            int constant = which;
            BigInteger want = new BigInteger(known[which]);
            Stand fresh = Stand.small(4711, 12, 815, 7);
            fresh.makes("constant " + which, want, 10, x -> x.mill(constant, 10, 10));
        }
        stand.refusesArgument("constant 5", x -> x.mill(5, 10, 10));
    }

    /** To n places is never more than the first of n + 1 places tell. */
    private static void placesAreRoundedDown() {
        for (int which = 0; which < 5; which++) {
            int constant = which;
            String all = Model.constant(which, 240, 10).toString();
            if (which == 3) {
                all = "0" + all;
            }
            DigitMill x = new DigitMill();
            for (int n = 0; n <= 240; n++) {
                int places = n;
                String want = new BigInteger(all.substring(0, n + 1)).toString();
                Check.due("constant " + which + " to " + n, want.length(), () -> x.mill(constant, places, 10));
                Check.due("sum of constant " + which + " to " + n, Stand.sum(want), () -> x.about(3));
            }
        }
    }

    /** Pi has six nines from its place 762 on, which rounding of any other kind would carry over. */
    private static void nines() {
        Stand stand = Stand.fresh();
        for (int n = 760; n <= 768; n++) {
            int places = n;
            stand.mill.mill(0, n, 10);
            stand.tells("pi's last digit to " + n, "349999998".charAt(n - 760) - '0', x -> x.digit(places));
        }
        stand.tells("the nines", 762, x -> x.find(999999, 6, 0));
    }

    /** L(b) is the least e with 2^e not below b: 1 for 2, 2 up to 4, 3 up to 8, 4 up to 16, 5 up to 32, 6 up to 36. */
    private static int bitsPerDigit(int base) {
        int bits = 1;
        while (LARGEST_OF_L[bits - 1] < base) {
            bits++;
        }
        return bits;
    }

    private static int mostPlaces(int base) {
        return new int[] {6000, 6000, 6000, 5000, 4000, 3333}[bitsPerDigit(base) - 1];
    }

    /** Up to L(b) = 3 it is n itself that ends at 6000; then n times L(b) that ends at 20000. */
    private static String refusedBehind(int base) {
        return base <= 8 ? "throws.IllegalArgumentException" : "throws.UnsupportedOperationException";
    }

    private static void mostPlacesOfConstant(int which) {
        DigitMill x = new DigitMill();
        for (int base = 2; base <= 36; base++) {
            int b = base;
            int most = mostPlaces(base);
            String want = Model.constant(which, most, base).toString(base);
            String what = "constant " + which + " in base " + base + ", ";
            Check.due(what + most, want.length(), () -> x.mill(which, most, b));
            Check.due(what + "sum", Stand.sum(want), () -> x.about(3));
            Check.due(what + (most + 1), refusedBehind(base), Check.answer(() -> x.mill(which, most + 1, b)));
            Check.due(what + "sum after", Stand.sum(want), () -> x.about(3));
        }
    }

    private static void mostPlacesOfRootAndQuotient() {
        for (int base = 2; base <= 36; base++) {
            int b = base;
            int most = mostPlaces(base);
            BigInteger unit = BigInteger.valueOf(base).pow(most);
            Stand stand = Stand.small(4711, 12, 815, 7);
            stand.refuses("root to " + (most + 1), refusedBehind(base).substring(7), x -> x.root(7, most + 1, b));
            stand.refuses("over to " + (most + 1), refusedBehind(base).substring(7), x -> x.over(1, 7, most + 1, b));
            BigInteger root = unit.multiply(unit).multiply(BigInteger.valueOf(7)).sqrt();
            stand.makes("root to " + most, root, base, x -> x.root(7, most, b));
            stand.makes("over to " + most, unit.divide(BigInteger.valueOf(7)), base, x -> x.over(1, 7, most, b));
        }
    }

    private static void firstNamedException() {
        Stand stand = Stand.small(4711, 12, 815, 7);
        stand.refusesUnsupported("mill, room alone", x -> x.mill(4, 6000, 36));
        stand.refusesArgument("mill, constant and room", x -> x.mill(5, 6000, 36));
        stand.refusesArgument("mill, n and room", x -> x.mill(4, 6001, 36));
        stand.refusesArgument("mill, base and room", x -> x.mill(4, 6000, 37));
        Stand next = Stand.small(4711, 12, 815, 7);
        next.refusesUnsupported("root, room alone", x -> x.root(0, 6000, 36));
        next.refusesArgument("root, a and room", x -> x.root(-1, 6000, 36));
        next.refusesArgument("root, n and room", x -> x.root(0, 6001, 36));
        next.refusesArgument("root, base and room", x -> x.root(0, 6000, 37));
        Stand last = Stand.small(4711, 12, 815, 7);
        last.refusesUnsupported("over, room alone", x -> x.over(0, 1, 6000, 36));
        last.refusesArgument("over, a and room", x -> x.over(-1, 1, 6000, 36));
        last.refusesArgument("over, b and room", x -> x.over(0, 0, 6000, 36));
        last.refusesArgument("over, n and room", x -> x.over(0, 1, 6001, 36));
        last.refusesArgument("over, base and room", x -> x.over(0, 1, 6000, 37));
        Stand full = Stand.nearLongest(0, 12, 815, 7);
        full.refusesUnsupported("push, room alone", x -> x.push(11));
        full.refusesArgument("push, digit and room", x -> x.push(12));
        full.refusesArgument("push, digit and room", x -> x.push(-1));
    }

    /** Each time the text had another number of digits before. */
    private static void answersHowManyDigits() {
        DigitMill x = new DigitMill();
        Check.due("digits after mill", 5, () -> x.mill(0, 4, 10));
        Check.due("digits after root", 4, () -> x.root(2, 3, 10));
        Check.due("digits after over", 7, () -> x.over(22, 7, 6, 10));
        Check.due("digits after number", 2, () -> x.number(99, 10));
        Check.due("digits after push", 3, () -> x.push(9));
        x.keep();
        Check.due("digits after convert", 10, () -> x.convert(2));
        Check.due("digits after swap", 3, x::swap);
        Check.due("digits after add", 4, x::add);
        Check.due("digits after subtract", 3, x::subtract);
        Check.due("digits after times", 6, x::times);
        Check.due("digits after divide", 3, x::divide);
        Check.due("digits after rooted", 2, x::rooted);
        Check.due("digits after swap to what was left", 1, x::swap);
    }
}
