import java.math.BigInteger;

/** Each promise of the document by itself: ordinary inputs, the edges that it names, wrong inputs. */
public final class PromiseTest {
    private static final String[] FIFTY = {
        "314159265358979323846264338327950288419716939937510",
        "271828182845904523536028747135266249775724709369995",
        "161803398874989484820458683436563811772030917980576",
        "69314718055994530941723212145817656807550013436025",
        "120205690315959428539973816151144999076498629234049",
    };
    private static final BigInteger TWO = BigInteger.TWO;

    public static void main(String[] args) {
        newObject();
        mill();
        millDeep();
        millGrowing();
        placesRefused();
        root();
        over();
        number();
        push();
        pushTooLong();
        keep();
        swap();
        add();
        subtract();
        times();
        divide();
        divideHard();
        rooted();
        convert();
        digit();
        about();
        count();
        find();
        compare();
        Check.end("PromiseTest");
    }

    private static void newObject() {
        DigitMill x = new DigitMill();
        Check.text("1 new", "0", 10, x);
        Check.due("1 length", 0, () -> x.about(1));
        Check.due("1 same", 0, x::compare);
        Check.due("1 the other is 0", 1, x::swap);
        Check.text("1 the other", "0", 10, x);
        Check.due("1 NONE", -1, () -> DigitMill.NONE);
    }

    private static void mill() {
        for (int which = 0; which < 5; which++) {
            int constant = which;
            DigitMill x = new DigitMill();
            String digits = FIFTY[which];
            Check.due("2 mill", digits.length(), () -> x.mill(constant, 50, 10));
            Check.text("2 mill " + which, digits, 10, x);
            x.mill(which, 0, 2);
            Check.text("2 no places", new String[] {"11", "10", "1", "0", "1"}[which], 2, x);
        }
    }

    private static void millDeep() {
        int[][] deepest = {{6000, 2}, {6000, 3}, {6000, 8}, {5000, 9}, {5000, 10}, {5000, 16},
            {4000, 17}, {4000, 32}, {3333, 33}, {3333, 36}};
        for (int which = 0; which < 5; which++) {
            for (int[] d : deepest) {
                DigitMill x = new DigitMill();
                x.mill(which, d[0], d[1]);
                String want = Model.constant(which, d[0], d[1]).toString(d[1]);
                Check.text("2 mill(" + which + ", " + d[0] + ", " + d[1] + ")", want, d[1], x);
            }
        }
    }

    /** What an object remembers of a constant must not show. */
    private static void millGrowing() {
        for (int which = 0; which < 5; which++) {
            DigitMill x = new DigitMill();
            for (int n = 1; n <= 3000; n = n * 5 / 3 + 1) {
                x.mill(which, n, 7);
                Check.due("2 sum to " + n, digitSum(Model.constant(which, n, 7), 7), x.about(3));
            }
            x.mill(which, 6, 7);
            Check.text("2 few again", Model.constant(which, 6, 7).toString(7), 7, x);
        }
    }

    private static int digitSum(BigInteger number, int base) {
        return number.toString(base).chars().map(c -> Character.digit(c, 36)).sum();
    }

    private static void placesRefused() {
        DigitMill x = new DigitMill();
        x.number(4711, 12);
        Check.wrongArgument("2 which", () -> x.mill(-1, 1, 10));
        Check.wrongArgument("2 which", () -> x.mill(5, 1, 10));
        Check.wrongArgument("2 which before room", () -> x.mill(5, 5001, 10));
        Check.wrongArgument("3 a", () -> x.root(-1, 1, 10));
        Check.wrongArgument("3 a", () -> x.root(Long.MIN_VALUE, 6000, 36));
        Check.wrongArgument("4 a", () -> x.over(-1, 1, 1, 10));
        Check.wrongArgument("4 b", () -> x.over(1, 0, 1, 10));
        Check.wrongArgument("4 b", () -> x.over(1, Long.MIN_VALUE, 6000, 36));
        int[][] wrong = {{-1, 10}, {6001, 2}, {6001, 36}, {Integer.MAX_VALUE, 2}, {Integer.MIN_VALUE, 2},
            {5, 1}, {5, 37}, {5, 0}, {5, -10}, {6000, 37}, {5, Integer.MAX_VALUE}, {5, Integer.MIN_VALUE}};
        for (int[] w : wrong) {
            Check.wrongArgument("2 places", () -> x.mill(0, w[0], w[1]));
            Check.wrongArgument("2 places", () -> x.mill(2, w[0], w[1]));
            Check.wrongArgument("3 places", () -> x.root(2, w[0], w[1]));
            Check.wrongArgument("4 places", () -> x.over(1, 3, w[0], w[1]));
        }
        int[][] tooMany = {{5001, 9}, {5001, 10}, {5001, 16}, {4001, 17}, {4001, 32}, {3334, 33}, {3334, 36}, {6000, 36}};
        for (int[] t : tooMany) {
            Check.unsupported("2 room", () -> x.mill(4, t[0], t[1]));
            Check.unsupported("3 room", () -> x.root(2, t[0], t[1]));
            Check.unsupported("4 room", () -> x.over(1, 3, t[0], t[1]));
        }
        Check.text("2 nothing changed", "2887", 12, x);
    }

    private static void root() {
        DigitMill x = new DigitMill();
        Check.due("3 root of 2", 11, () -> x.root(2, 10, 10));
        Check.text("3 root of 2", "14142135623", 10, x);
        x.root(4, 10, 10);
        Check.text("3 root of 4", "20000000000", 10, x);
        Check.due("3 root of 0", 1, () -> x.root(0, 6000, 8));
        x.root(Long.MAX_VALUE, 0, 16);
        Check.text("3 greatest", "b504f333", 16, x);
        long[] values = {1, 2, 3, 5, 15, 16, 17, 999999, (1L << 60) - 1, 1L << 60, (1L << 31) * (1L << 31) - 1,
            3037000499L * 3037000499L, 3037000499L * 3037000499L - 1, Long.MAX_VALUE};
        int[][] places = {{0, 10}, {1, 2}, {7, 3}, {14, 2}, {15, 2}, {29, 2}, {30, 2}, {31, 2}, {200, 36}, {5000, 16}, {3333, 36}};
        for (long a : values) {
            for (int[] p : places) {
                DigitMill y = new DigitMill();
                y.root(a, p[0], p[1]);
                BigInteger want = BigInteger.valueOf(a).multiply(BigInteger.valueOf(p[1]).pow(2 * p[0])).sqrt();
                Check.text("3 root(" + a + ", " + p[0] + ", " + p[1] + ")", want.toString(p[1]), p[1], y);
            }
        }
    }

    private static void over() {
        DigitMill x = new DigitMill();
        Check.due("4 a seventh", 12, () -> x.over(1, 7, 12, 10));
        Check.text("4 a seventh", "142857142857", 10, x);
        x.over(0, 5, 3, 10);
        Check.text("4 nothing", "0", 10, x);
        x.over(1, 1000, 2, 10);
        Check.text("4 too small", "0", 10, x);
        long[] values = {1, 2, 3, 7, 1 << 29, 1 << 30, (1 << 30) - 1, 1L << 59, (1L << 60) - 1, 1L << 60, (1L << 60) + 1, Long.MAX_VALUE};
        int[][] places = {{0, 10}, {60, 2}, {17, 11}, {3333, 36}, {5000, 10}};
        for (long a : values) {
            for (long b : values) {
                for (int[] p : places) {
                    DigitMill y = new DigitMill();
                    y.over(a, b, p[0], p[1]);
                    BigInteger scaled = BigInteger.valueOf(a).multiply(BigInteger.valueOf(p[1]).pow(p[0]));
                    Check.text("4 over(" + a + ", " + b + ", " + p[0] + ", " + p[1] + ")",
                        scaled.divide(BigInteger.valueOf(b)).toString(p[1]), p[1], y);
                }
            }
        }
    }

    private static void number() {
        DigitMill x = new DigitMill();
        for (int base = 2; base <= 36; base++) {
            int b = base;
            for (long a : new long[] {0, 1, b - 1, b, (long) b * b - 1, (long) b * b, (1 << 30) - 1, 1 << 30, Long.MAX_VALUE}) {
                DigitMill y = new DigitMill();
                Check.due("5 number", Long.toString(a, b).length(), () -> y.number(a, b));
                Check.text("5 number " + a, Long.toString(a, b), b, y);
            }
        }
        x.number(77, 8);
        Check.wrongArgument("5 below 0", () -> x.number(-1, 10));
        Check.wrongArgument("5 below 0", () -> x.number(Long.MIN_VALUE, 10));
        Check.wrongArgument("5 base", () -> x.number(1, 1));
        Check.wrongArgument("5 base", () -> x.number(1, 37));
        Check.text("5 nothing changed", "115", 8, x);
    }

    private static void push() {
        DigitMill x = new DigitMill();
        Check.due("6 behind 0", 1, () -> x.push(0));
        Check.due("6 behind 0", 1, () -> x.push(7));
        Check.due("6 behind 7", 2, () -> x.push(0));
        Check.wrongArgument("6 the base", () -> x.push(10));
        Check.wrongArgument("6 below 0", () -> x.push(-1));
        Check.text("6 push", "70", 10, x);
        for (int base = 2; base <= 36; base++) {
            DigitMill y = new DigitMill();
            y.number(1, base);
            StringBuilder want = new StringBuilder("1");
            for (int i = 0; i < 80; i++) {
                int digit = i * i * 7 % base;
                want.append(Character.forDigit(digit, 36));
                Check.due("6 pushed", want.length(), () -> y.push(digit));
            }
            Check.text("6 pushed in base " + base, want.toString(), base, y);
            Check.due("6 length", new BigInteger(want.toString(), base).bitLength(), () -> y.about(1));
            Check.due("6 to base 3", new BigInteger(want.toString(), base).toString(3).length(), () -> y.convert(3));
        }
    }

    /** A text of a power of two, and a length near 24000. */
    private static DigitMill powerOfTwo(int exponent) {
        DigitMill x = new DigitMill();
        x.over(1, 1, exponent / 4, 2);
        x.keep();
        x.times();
        x.keep();
        x.times();
        for (int i = exponent / 4 * 4; i < exponent; i++) {
            x.push(0);
        }
        return x;
    }

    private static void pushTooLong() {
        DigitMill x = powerOfTwo(23999);
        Check.due("6 longest", 24000, () -> x.about(1));
        Check.unsupported("6 too long", () -> x.push(0));
        Check.wrongArgument("6 wrong first", () -> x.push(2));
        Check.text("6 nothing changed", TWO.pow(23999).toString(2), 2, x);
        DigitMill y = powerOfTwo(23995);
        y.convert(36);
        Check.unsupported("6 too long in base 36", () -> y.push(0));
        Check.text("6 nothing changed", TWO.pow(23995).toString(36), 36, y);
        DigitMill z = powerOfTwo(23994);
        z.convert(36);
        String longest = TWO.pow(23994).toString(36) + "z";
        Check.due("6 36 * 2^23994 has 24000 bits", longest.length(), () -> z.push(35));
        Check.text("6 longest in base 36", longest, 36, z);
    }

    private static void keep() {
        DigitMill x = new DigitMill();
        x.mill(0, 20, 16);
        x.keep();
        Check.due("7 same", 0, x::compare);
        x.push(3);
        x.convert(3);
        Check.due("7 text went on", 1, x::compare);
        Check.due("7 kept", 21, x::swap);
        Check.text("7 kept", Model.constant(0, 20, 16).toString(16), 16, x);
        Check.due("7 push behind the kept", 22, () -> x.push(15));
        Check.text("7 push behind the kept", Model.constant(0, 20, 16).toString(16) + "f", 16, x);
    }

    private static void swap() {
        DigitMill x = new DigitMill();
        x.number(12345, 10);
        Check.due("8 the other was 0", 1, x::swap);
        x.number(255, 16);
        Check.due("8 back", 5, x::swap);
        Check.text("8 first", "12345", 10, x);
        Check.due("8 and again", 2, x::swap);
        Check.text("8 second", "ff", 16, x);
        Check.due("8 less", -1, x::compare);
    }

    private static DigitMill pair(BigInteger text, int base, BigInteger other, int otherBase) {
        DigitMill x = new DigitMill();
        enter(x, other, otherBase);
        x.keep();
        enter(x, text, base);
        return x;
    }

    /** By pushes in base 36, a bit more than five bits a call. */
    private static void enter(DigitMill x, BigInteger number, int base) {
        String digits = number.toString(36);
        x.number(0, 36);
        for (int i = 0; i < digits.length(); i++) {
            x.push(Character.digit(digits.charAt(i), 36));
        }
        x.convert(base);
    }

    private static void add() {
        DigitMill x = pair(BigInteger.valueOf(999), 10, BigInteger.ONE, 2);
        Check.due("9 sum", 4, x::add);
        Check.text("9 sum", "1000", 10, x);
        x.swap();
        Check.text("9 the other stays", "1", 2, x);
        DigitMill y = pair(TWO.pow(900).subtract(BigInteger.ONE), 7, TWO.pow(30), 10);
        y.add();
        Check.text("9 carries", TWO.pow(900).subtract(BigInteger.ONE).add(TWO.pow(30)).toString(7), 7, y);
        DigitMill z = powerOfTwo(23999);
        z.keep();
        Check.unsupported("9 too long", z::add);
        Check.text("9 nothing changed", TWO.pow(23999).toString(2), 2, z);
        // The greatest of 23999 bits, and 1.
        DigitMill longest = powerOfTwo(23999);
        longest.keep();
        longest.number(1, 2);
        longest.swap();
        longest.subtract();
        longest.swap();
        Check.due("9 small", 1, () -> longest.about(0));
        Check.due("9 just fits", 24000, longest::add);
        Check.due("9 one bit set", 1, () -> longest.about(3));
    }

    private static void subtract() {
        DigitMill x = pair(BigInteger.valueOf(1000), 10, BigInteger.ONE, 2);
        Check.due("10 less", 3, x::subtract);
        Check.text("10 less", "999", 10, x);
        DigitMill y = pair(TWO.pow(900), 7, BigInteger.ONE, 10);
        y.subtract();
        Check.text("10 borrows", TWO.pow(900).subtract(BigInteger.ONE).toString(7), 7, y);
        y.keep();
        Check.due("10 all", 1, y::subtract);
        Check.text("10 all", "0", 7, y);
        Check.arithmetic("10 the other is greater", y::subtract);
        Check.text("10 nothing changed", "0", 7, y);
        DigitMill z = pair(TWO.pow(900), 7, TWO.pow(900).add(BigInteger.ONE), 10);
        Check.arithmetic("10 greater by 1", z::subtract);
        Check.text("10 nothing changed", TWO.pow(900).toString(7), 7, z);
        z.swap();
        Check.text("10 nor the other", TWO.pow(900).add(BigInteger.ONE).toString(10), 10, z);
    }

    private static void times() {
        BigInteger a = TWO.pow(900).subtract(BigInteger.ONE);
        BigInteger b = TWO.pow(870).subtract(BigInteger.valueOf(12345));
        DigitMill x = pair(a, 10, b, 36);
        Check.due("11 product", a.multiply(b).toString().length(), x::times);
        Check.text("11 product", a.multiply(b).toString(), 10, x);
        DigitMill zero = pair(a, 10, BigInteger.ZERO, 36);
        Check.due("11 by 0", 1, zero::times);
        Check.text("11 by 0", "0", 10, zero);
        // 2^11999 * 2^12000 has 24000 bits, 2^12000 * 2^12000 one more.
        DigitMill y = powerOfTwo(12000);
        y.keep();
        Check.unsupported("11 too long", y::times);
        Check.text("11 nothing changed", TWO.pow(12000).toString(2), 2, y);
        DigitMill z = powerOfTwo(11999);
        z.keep();
        z.push(0);
        Check.due("11 just fits", 24000, z::times);
        // Factors of 12000 and 12001 bits, whose product has 24000 or 24001.
        DigitMill w = powerOfTwo(12000);
        w.keep();
        w.number(1, 2);
        w.swap();
        w.subtract();
        w.keep();
        w.push(1);
        Check.unsupported("11 too long by one bit", w::times);
        Check.due("11 nothing changed", 12001, () -> w.about(3));
    }

    private static void divide() {
        DigitMill x = pair(BigInteger.valueOf(100), 10, BigInteger.valueOf(7), 2);
        Check.due("12 quotient", 2, x::divide);
        Check.text("12 quotient", "14", 10, x);
        Check.due("12 what is left", 2, x::swap);
        Check.text("12 what is left", "10", 2, x);
        DigitMill less = pair(BigInteger.valueOf(6), 10, BigInteger.valueOf(7), 3);
        Check.due("12 less", 1, less::divide);
        Check.text("12 less", "0", 10, less);
        less.swap();
        Check.text("12 all left", "20", 3, less);
        DigitMill zero = pair(BigInteger.valueOf(6), 10, BigInteger.ZERO, 3);
        Check.arithmetic("12 by 0", zero::divide);
        Check.text("12 nothing changed", "6", 10, zero);
        zero.swap();
        Check.text("12 nor the other", "0", 3, zero);
        DigitMill whole = pair(BigInteger.valueOf(91), 10, BigInteger.valueOf(7), 3);
        whole.divide();
        Check.arithmetic("12 nothing left", whole::divide);
    }

    /** Guessed limbs that are too great by 1 and by 2, whatever limbs the program has. */
    private static void divideHard() {
        for (int bits = 28; bits <= 32; bits++) {
            BigInteger unit = TWO.pow(bits);
            BigInteger half = TWO.pow(bits - 1);
            BigInteger last = unit.subtract(BigInteger.ONE);
            BigInteger[] tops = {half, half.add(BigInteger.ONE), last, BigInteger.ONE};
            BigInteger[] lows = {BigInteger.ZERO, BigInteger.ONE, half, last};
            for (BigInteger top : tops) {
                for (BigInteger middle : lows) {
                    for (BigInteger low : lows) {
                        BigInteger divisor = top.multiply(unit).add(middle).multiply(unit).add(low);
                        quotient(divisor.multiply(unit).subtract(BigInteger.ONE), divisor);
                        quotient(divisor.multiply(last).multiply(unit), divisor);
                        quotient(top.multiply(unit.pow(4)).add(low), divisor);
                        quotient(unit.pow(6).subtract(BigInteger.ONE), divisor);
                    }
                }
            }
        }
    }

    private static void quotient(BigInteger a, BigInteger b) {
        DigitMill x = pair(a, 36, b, 36);
        x.divide();
        Check.text("12 " + a + " / " + b, a.divide(b).toString(36), 36, x);
        x.swap();
        Check.text("12 " + a + " % " + b, a.mod(b).toString(36), 36, x);
    }

    private static void rooted() {
        DigitMill x = new DigitMill();
        Check.due("13 of 0", 1, x::rooted);
        Check.text("13 of 0", "0", 10, x);
        x.number(99, 10);
        x.keep();
        Check.due("13 of 99", 1, x::rooted);
        Check.text("13 of 99", "9", 10, x);
        Check.due("13 the other stays", 2, x::swap);
        for (int bits = 1; bits <= 700; bits += bits < 130 ? 1 : 57) {
            BigInteger root = TWO.pow(bits).subtract(BigInteger.valueOf(bits % 3));
            for (int below = -1; below <= 1; below++) {
                BigInteger square = root.multiply(root).add(BigInteger.valueOf(below));
                if (square.signum() >= 0) {
                    DigitMill y = new DigitMill();
                    enter(y, square, 11);
                    y.rooted();
                    Check.text("13 of " + square, square.sqrt().toString(11), 11, y);
                }
            }
        }
        DigitMill longest = powerOfTwo(23999);
        longest.rooted();
        Check.text("13 of the longest", TWO.pow(23999).sqrt().toString(2), 2, longest);
    }

    private static void convert() {
        DigitMill x = new DigitMill();
        x.mill(1, 5000, 16);
        BigInteger number = Model.constant(1, 5000, 16);
        for (int base = 2; base <= 36; base++) {
            int b = base;
            Check.due("14 digits in base " + base, number.toString(base).length(), () -> x.convert(b));
            Check.due("14 sum in base " + base, digitSum(number, base), x.about(3));
        }
        Check.text("14 the last", number.toString(36), 36, x);
        for (int wrong : new int[] {1, 0, -1, 37, Integer.MAX_VALUE, Integer.MIN_VALUE}) {
            Check.wrongArgument("14 base " + wrong, () -> x.convert(wrong));
        }
        Check.due("14 base stays", 36, () -> x.about(2));
        DigitMill y = new DigitMill();
        Check.due("14 of 0", 1, () -> y.convert(2));
        Check.due("14 of 0", 1, () -> y.push(1));
        Check.wrongArgument("14 digits of the new base", () -> y.push(2));
    }

    private static void digit() {
        DigitMill x = new DigitMill();
        x.mill(0, 50, 10);
        for (int i = 0; i < 51; i++) {
            int place = i;
            Check.due("15 digit " + i, FIFTY[0].charAt(i) - '0', () -> x.digit(place));
        }
        for (int wrong : new int[] {-1, 51, Integer.MAX_VALUE, Integer.MIN_VALUE}) {
            Check.outOfBounds("15 digit " + wrong, () -> x.digit(wrong));
        }
        x.number(0, 5);
        Check.due("15 of 0", 0, () -> x.digit(0));
        Check.outOfBounds("15 of 0", () -> x.digit(1));
    }

    private static void about() {
        DigitMill x = new DigitMill();
        x.number(1023, 36);
        Check.due("16 digits", 2, () -> x.about(0));
        Check.due("16 length", 10, () -> x.about(1));
        Check.due("16 base", 36, () -> x.about(2));
        Check.due("16 sum", 28 + 15, () -> x.about(3));
        x.number(1024, 2);
        Check.due("16 length", 11, () -> x.about(1));
        Check.due("16 sum", 1, () -> x.about(3));
        for (int wrong : new int[] {-1, 4, Integer.MAX_VALUE, Integer.MIN_VALUE}) {
            Check.wrongArgument("16 about " + wrong, () -> x.about(wrong));
        }
    }

    private static void count() {
        DigitMill x = new DigitMill();
        x.over(1, 7, 18, 10);
        Check.due("17 all", 3, () -> x.count(1, 0, 17));
        Check.due("17 both ends", 2, () -> x.count(1, 0, 6));
        Check.due("17 before the second", 1, () -> x.count(1, 0, 5));
        Check.due("17 after the first", 1, () -> x.count(1, 1, 6));
        Check.due("17 one place", 1, () -> x.count(7, 17, 17));
        Check.due("17 none of them", 0, () -> x.count(9, 0, 17));
        Check.due("17 none of the base", 0, () -> x.count(10, 0, 17));
        Check.due("17 none of the base", 0, () -> x.count(-1, 0, 17));
        Check.due("17 i above k", 0, () -> x.count(1, 6, 5));
        Check.due("17 i beyond the end", 0, () -> x.count(1, Integer.MAX_VALUE, 17));
        Check.due("17 k below 0", 0, () -> x.count(1, 0, Integer.MIN_VALUE));
        Check.outOfBounds("17 i", () -> x.count(1, -1, 5));
        Check.outOfBounds("17 i below k", () -> x.count(1, -1, -2));
        Check.outOfBounds("17 k", () -> x.count(1, 0, 18));
        Check.outOfBounds("17 k, i above it", () -> x.count(1, 100, 18));
        Check.outOfBounds("17 k, no digit", () -> x.count(10, 0, Integer.MAX_VALUE));
    }

    private static void find() {
        DigitMill x = new DigitMill();
        x.over(1, 7, 18, 10);
        Check.due("18 first", 0, () -> x.find(142857142857L, 12, 0));
        Check.due("18 next", 6, () -> x.find(142857142857L, 12, 1));
        Check.due("18 last", 6, () -> x.find(142857142857L, 12, 6));
        Check.due("18 no more", -1, () -> x.find(142857142857L, 12, 7));
        Check.due("18 at the end", 17, () -> x.find(7, 1, 17));
        Check.due("18 at the end", 16, () -> x.find(57, 2, 16));
        Check.due("18 too near the end", -1, () -> x.find(57, 2, 17));
        Check.due("18 beyond the end", -1, () -> x.find(7, 1, 18));
        Check.due("18 far beyond", -1, () -> x.find(7, 1, Integer.MAX_VALUE));
        Check.due("18 no zeros in front here", -1, () -> x.find(14, 3, 0));
        x.over(1, 128, 20, 10);
        Check.due("18 before zeros", 4, () -> x.find(5, 1, 0));
        Check.due("18 zeros", 5, () -> x.find(0, 12, 0));
        Check.due("18 zeros in front", -1, () -> x.find(781, 5, 0));
        x.number(1000230004L, 10);
        Check.due("18 zeros in front", 2, () -> x.find(23, 4, 0));
        Check.due("18 zeros in front", 6, () -> x.find(4, 4, 0));
        Check.due("18 overlaps", 2, () -> x.find(0, 2, 2));
        x.number(0, 10);
        Check.due("18 in 0", 0, () -> x.find(0, 1, 0));
        Check.due("18 in 0", -1, () -> x.find(0, 2, 0));
        findRefused(x);
        DigitMill y = new DigitMill();
        y.number(Long.MAX_VALUE, 36);
        long most = 4738381338321616896L;
        Check.due("18 widest", 0, () -> y.find(Long.MAX_VALUE / 36, 12, 0));
        Check.due("18 widest", 1, () -> y.find(Long.MAX_VALUE % most, 12, 0));
        Check.due("18 widest, none", -1, () -> y.find(most - 1, 12, 0));
        Check.wrongArgument("18 36^12", () -> y.find(most, 12, 0));
    }

    private static void findRefused(DigitMill x) {
        Check.wrongArgument("18 n", () -> x.find(0, 0, 0));
        Check.wrongArgument("18 n", () -> x.find(0, 13, 0));
        Check.wrongArgument("18 n", () -> x.find(0, Integer.MAX_VALUE, 0));
        Check.wrongArgument("18 n", () -> x.find(0, Integer.MIN_VALUE, 0));
        Check.wrongArgument("18 a", () -> x.find(-1, 3, 0));
        Check.wrongArgument("18 a", () -> x.find(Long.MIN_VALUE, 12, 0));
        Check.wrongArgument("18 a too long", () -> x.find(1000, 3, 0));
        Check.due("18 a just fits", -1, () -> x.find(999, 3, 0));
        Check.wrongArgument("18 a too long", () -> x.find(10, 1, 0));
        Check.wrongArgument("18 a too long", () -> x.find(Long.MAX_VALUE, 12, 0));
        Check.wrongArgument("18 a in base 2", () -> {
            x.convert(2);
            return x.find(8, 3, 0);
        });
        Check.wrongArgument("18 i", () -> x.find(1, 1, -1));
        Check.wrongArgument("18 i", () -> x.find(1, 1, Integer.MIN_VALUE));
    }

    private static void compare() {
        Check.due("19 less", -1, () -> pair(BigInteger.ONE, 10, BigInteger.TWO, 10).compare());
        Check.due("19 same in other bases", 0, () -> pair(TWO.pow(500), 10, TWO.pow(500), 2).compare());
        Check.due("19 greater", 1, () -> pair(TWO.pow(500), 2, TWO.pow(499), 36).compare());
        Check.due("19 less by 1", -1, () -> pair(TWO.pow(500), 2, TWO.pow(500).add(BigInteger.ONE), 36).compare());
        Check.due("19 0", 0, () -> pair(BigInteger.ZERO, 2, BigInteger.ZERO, 36).compare());
        Check.due("19 greater than 0", 1, () -> pair(BigInteger.ONE, 2, BigInteger.ZERO, 36).compare());
        DigitMill x = pair(BigInteger.TWO, 10, BigInteger.ONE, 5);
        Check.due("19 changes nothing", 1, x::compare);
        Check.text("19 changes nothing", "2", 10, x);
    }
}
