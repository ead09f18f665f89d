import java.math.BigInteger;
import java.util.function.Supplier;

/**
 * Each single digit of long texts, where other tests look at windows of them:
 * a text is made on as many objects as the 512 calls of each ask for.
 */
public final class EveryDigitTest {
    private static final int CALLS = 512;
    /** More than any text here takes to be made. */
    private static final int CALLS_TO_MAKE = 64;

    public static void main(String[] args) {
        constants();
        roots();
        quotients();
        products();
        longest();
        Check.end("EveryDigitTest");
    }

    /** Reads the text of fresh objects, which are all made alike, from end to end. */
    private static void every(String what, String digits, Supplier<DigitMill> maker) {
        int slice = CALLS - CALLS_TO_MAKE;
        for (int from = 0; from < digits.length(); from += slice) {
            DigitMill x = maker.get();
            Check.due(what + ": how many digits", digits.length(), () -> x.about(0));
            for (int i = from; i < Math.min(digits.length(), from + slice); i++) {
                int place = i;
                Check.due(what + ": digit " + i, Character.digit(digits.charAt(i), 36), () -> x.digit(place));
            }
        }
    }

    private static int mostPlaces(int base) {
        int bits = 0;
        while (1 << bits < base) {
            bits++;
        }
        return Math.min(6000, 20000 / bits);
    }

    private static void constants() {
        for (int base = 2; base <= 36; base++) {
            for (int which = 0; which < 5; which++) {
                if (base == 10 || base % 5 == which) {
                    constant(which, mostPlaces(base), base);
                }
            }
        }
    }

    private static void constant(int which, int n, int base) {
        String digits = Model.constant(which, n, base).toString(base);
        every("mill(" + which + ", " + n + ", " + base + ")", digits, () -> {
            DigitMill x = new DigitMill();
            x.mill(which, n, base);
            return x;
        });
    }

    private static void roots() {
        for (long a : new long[] {2, 999_999_999_999L, Long.MAX_VALUE}) {
            for (int base : new int[] {7, 10, 33}) {
                int n = mostPlaces(base);
                BigInteger scaled = BigInteger.valueOf(a).multiply(BigInteger.valueOf(base).pow(2 * n));
                every("root(" + a + ", " + n + ", " + base + ")", scaled.sqrt().toString(base), () -> {
                    DigitMill x = new DigitMill();
                    x.root(a, n, base);
                    return x;
                });
            }
        }
    }

    private static void quotients() {
        for (long b : new long[] {97, (1L << 60) + 1, Long.MAX_VALUE}) {
            for (int base : new int[] {6, 10, 35}) {
                int n = mostPlaces(base);
                BigInteger scaled = BigInteger.valueOf(1L << 61).multiply(BigInteger.valueOf(base).pow(n));
                String digits = scaled.divide(BigInteger.valueOf(b)).toString(base);
                every("over(2^61, " + b + ", " + n + ", " + base + ")", digits, () -> {
                    DigitMill x = new DigitMill();
                    x.over(1L << 61, b, n, base);
                    return x;
                });
            }
        }
    }

    /** A product of some 23,840 bits without a pattern, and what comes of it. */
    private static void products() {
        BigInteger both = Model.constant(0, 4500, 8).multiply(Model.constant(1, 2000, 36));
        BigInteger divisor = Model.constant(3, 1000, 29);
        every("pi times e", both.toString(8), EveryDigitTest::product);
        every("in base 11", both.toString(11), () -> {
            DigitMill x = product();
            x.convert(11);
            return x;
        });
        every("its root", both.sqrt().toString(8), () -> {
            DigitMill x = product();
            x.rooted();
            return x;
        });
        every("its quotient", both.divide(divisor).toString(8), EveryDigitTest::quotient);
        every("what is left of it", both.mod(divisor).toString(29), () -> {
            DigitMill x = quotient();
            x.swap();
            return x;
        });
    }

    private static DigitMill product() {
        DigitMill x = new DigitMill();
        x.mill(1, 2000, 36);
        x.keep();
        x.mill(0, 4500, 8);
        x.times();
        return x;
    }

    private static DigitMill quotient() {
        DigitMill x = product();
        x.swap();
        x.mill(3, 1000, 29);
        x.swap();
        x.divide();
        return x;
    }

    private static void longest() {
        for (int base : new int[] {2, 10, 33, 36}) {
            every("2^24000 - 1 in base " + base, Stand.LONGEST.toString(base),
                () -> Stand.nearLongest(0, base, 1, 10).mill);
        }
    }
}
