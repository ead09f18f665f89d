import java.math.BigInteger;
import java.util.function.ToIntFunction;

/** An object in a known state, with what its text and its other are by then. */
final class Stand {
    /** The greatest number that an object may hold: 24000 bits, all set. */
    static final BigInteger LONGEST = BigInteger.TWO.pow(24000).subtract(BigInteger.ONE);
    private static final int WINDOW = 12;
    /** So few that several looks at both numbers stay within an object's 512 calls. */
    private static final int MOST_WINDOWS = 40;

    final DigitMill mill = new DigitMill();
    BigInteger text = BigInteger.ZERO;
    int base = 10;
    BigInteger other = BigInteger.ZERO;
    int otherBase = 10;

    static Stand fresh() {
        return new Stand();
    }

    static Stand small(long text, int base, long other, int otherBase) {
        Stand made = new Stand();
        made.putText(text, base);
        made.putOther(other, otherBase);
        return made;
    }

    /** A text of a power of two, and the same as the other. */
    static Stand power(int exponent) {
        Stand made = new Stand();
        made.mill.over(1, 1, exponent / 4, 2);
        made.mill.keep();
        made.mill.times();
        made.mill.keep();
        made.mill.times();
        for (int i = exponent / 4 * 4; i < exponent; i++) {
            made.mill.push(0);
        }
        made.mill.keep();
        made.text = BigInteger.TWO.pow(exponent);
        made.base = 2;
        made.other = made.text;
        made.otherBase = 2;
        return made;
    }

    /** The text is 2^12000 + 1, the other 2^12000 - 1: their product is the longest number. */
    static Stand factors() {
        Stand made = power(12000);
        made.putOther(1, 2);
        made.mill.subtract();
        made.mill.keep();
        made.mill.number(2, 2);
        made.mill.add();
        made.text = BigInteger.TWO.pow(12000).add(BigInteger.ONE);
        made.other = BigInteger.TWO.pow(12000).subtract(BigInteger.ONE);
        return made;
    }

    /** The text is the longest number less some, the other a small one. */
    static Stand nearLongest(long less, int base, long other, int otherBase) {
        Stand made = factors();
        made.mill.times();
        made.putOther(less, 10);
        made.mill.subtract();
        made.mill.convert(base);
        made.text = LONGEST.subtract(BigInteger.valueOf(less));
        made.base = base;
        made.putOther(other, otherBase);
        return made;
    }

    /** The text is the longest number over a divisor, rounded down, and some more; the other is the divisor. */
    static Stand partOfLongest(int divisor, int more, int base) {
        Stand made = nearLongest(0, base, divisor, 10);
        made.mill.divide();
        made.putOther(more, 10);
        made.mill.add();
        made.text = LONGEST.divide(BigInteger.valueOf(divisor)).add(BigInteger.valueOf(more));
        made.putOther(divisor, 10);
        return made;
    }

    /** Long numbers without a pattern. */
    static Stand constants() {
        Stand made = new Stand();
        made.mill.mill(1, 3333, 36);
        made.mill.keep();
        made.mill.mill(0, 5000, 10);
        made.text = Model.constant(0, 5000, 10);
        made.other = Model.constant(1, 3333, 36);
        made.otherBase = 36;
        return made;
    }

    /** Both come from one division, and have changed places since. */
    static Stand divided() {
        Stand made = constants();
        BigInteger[] both = made.text.divideAndRemainder(made.other);
        made.mill.divide();
        made.text = both[0];
        made.other = both[1];
        made.mill.swap();
        made.swapped();
        return made;
    }

    void putText(long a, int newBase) {
        mill.number(a, newBase);
        text = BigInteger.valueOf(a);
        base = newBase;
    }

    void putOther(long a, int newBase) {
        mill.swap();
        mill.number(a, newBase);
        mill.swap();
        other = BigInteger.valueOf(a);
        otherBase = newBase;
    }

    /** What is to be known after a swap; the object has made it already. */
    void swapped() {
        BigInteger wasText = text;
        int wasBase = base;
        text = other;
        base = otherBase;
        other = wasText;
        otherBase = wasBase;
    }

    String digits() {
        return text.toString(base);
    }

    /** The call answers that, and neither number changes. */
    void tells(String what, int want, ToIntFunction<DigitMill> call) {
        Check.due(what, want, () -> call.applyAsInt(mill));
    }

    /** The call makes the text that number in its base, and answers how many digits it has; the other stays. */
    void makes(String what, BigInteger want, ToIntFunction<DigitMill> call) {
        makes(what, want, base, call);
    }

    void makes(String what, BigInteger want, int newBase, ToIntFunction<DigitMill> call) {
        makesBoth(what, want, newBase, other, call);
    }

    /** For a call that gives the other a new number, too. */
    void makesBoth(String what, BigInteger want, int newBase, BigInteger left, ToIntFunction<DigitMill> call) {
        text = want;
        base = newBase;
        other = left;
        Check.due(what, digits().length(), () -> call.applyAsInt(mill));
        holds(what);
    }

    void refusesArgument(String what, ToIntFunction<DigitMill> call) {
        refuses(what, "IllegalArgumentException", call);
    }

    void refusesUnsupported(String what, ToIntFunction<DigitMill> call) {
        refuses(what, "UnsupportedOperationException", call);
    }

    void refusesPlace(String what, ToIntFunction<DigitMill> call) {
        refuses(what, "IndexOutOfBoundsException", call);
    }

    void refusesArithmetic(String what, ToIntFunction<DigitMill> call) {
        refuses(what, "ArithmeticException", call);
    }

    /** The call throws that very exception, and the text and the other are afterwards what they were. */
    void refuses(String what, String exception, ToIntFunction<DigitMill> call) {
        Check.due(what, "throws." + exception, Check.answer(() -> call.applyAsInt(mill)));
        holds(what + ", refused");
    }

    /** The text and the other are what they should be. */
    void holds(String what) {
        look(what + ": the text", text, base);
        Check.due(what + ": swap to the other", other.toString(otherBase).length(), mill::swap);
        look(what + ": the other", other, otherBase);
        Check.due(what + ": swap back", digits().length(), mill::swap);
    }

    /** All digits of a text of up to 480, evenly spread ones of a longer one, both ends among them. */
    private void look(String what, BigInteger number, int itsBase) {
        String digits = number.toString(itsBase);
        Check.due(what + ": how many digits", digits.length(), () -> mill.about(0));
        Check.due(what + ": length", number.bitLength(), () -> mill.about(1));
        Check.due(what + ": base", itsBase, () -> mill.about(2));
        Check.due(what + ": sum", sum(digits), () -> mill.about(3));
        int wide = Math.min(WINDOW, digits.length());
        int windows = Math.min(MOST_WINDOWS, (digits.length() + WINDOW - 1) / WINDOW);
        for (int i = 0; i < windows; i++) {
            int start = (digits.length() - wide) * i / Math.max(1, windows - 1);
            String seen = digits.substring(start, start + wide);
            long value = Long.parseLong(seen, itsBase);
            Check.due(what + ": " + seen + " at " + start, start, () -> mill.find(value, wide, start));
        }
    }

    static int sum(String digits) {
        return digits.chars().map(c -> Character.digit(c, 36)).sum();
    }
}
