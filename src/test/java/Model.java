import java.math.BigInteger;

/** The document's promises over BigInteger, with other series for the constants than the program has. */
final class Model {
    private static final int DEPTH = 20400;
    private static final int LONGEST = 24000;
    private static final BigInteger[] CONSTANTS = new BigInteger[5];

    BigInteger text = BigInteger.ZERO;
    int base = 10;
    BigInteger other = BigInteger.ZERO;
    int otherBase = 10;
    private String told;

    static BigInteger constant(int which, int n, int base) {
        if (CONSTANTS[which] == null) {
            CONSTANTS[which] = series(which);
        }
        BigInteger scale = BigInteger.valueOf(base).pow(n);
        BigInteger below = CONSTANTS[which].subtract(BigInteger.ONE.shiftLeft(64)).multiply(scale).shiftRight(DEPTH);
        BigInteger above = CONSTANTS[which].add(BigInteger.ONE.shiftLeft(64)).multiply(scale).shiftRight(DEPTH);
        if (!below.equals(above)) {
            throw new AssertionError("the model itself is not deep enough");
        }
        return below;
    }

    private static BigInteger series(int which) {
        BigInteger one = BigInteger.ONE.shiftLeft(DEPTH);
        switch (which) {
            case 0:
                return arc(48, 18, -1).add(arc(32, 57, -1)).subtract(arc(20, 239, -1));
            case 1:
                return exponential(one);
            case 2:
                return one.add(one.multiply(one).multiply(BigInteger.valueOf(5)).sqrt()).shiftRight(1);
            case 3:
                return arc(18, 26, 1).subtract(arc(2, 4801, 1)).add(arc(8, 8749, 1));
            default:
                return apery(one);
        }
    }

    /** weight times arctan(1 / x) for sign -1, artanh(1 / x) for sign 1. */
    private static BigInteger arc(int weight, int x, int sign) {
        BigInteger square = BigInteger.valueOf((long) x * x);
        BigInteger power = BigInteger.valueOf(weight).shiftLeft(DEPTH).divide(BigInteger.valueOf(x));
        BigInteger sum = BigInteger.ZERO;
        for (int k = 0; power.signum() != 0; k++) {
            BigInteger term = power.divide(BigInteger.valueOf(2L * k + 1));
            sum = sign < 0 && k % 2 == 1 ? sum.subtract(term) : sum.add(term);
            power = power.divide(square);
        }
        return sum;
    }

    private static BigInteger exponential(BigInteger one) {
        BigInteger sum = BigInteger.ZERO;
        BigInteger term = one;
        for (int k = 1; term.signum() != 0; k++) {
            sum = sum.add(term);
            term = term.divide(BigInteger.valueOf(k));
        }
        return sum;
    }

    /** 5/2 of the sum of (-1)^(k-1) / (k^3 * (2k over k)). */
    private static BigInteger apery(BigInteger one) {
        BigInteger sum = BigInteger.ZERO;
        BigInteger term = one.multiply(BigInteger.valueOf(5)).shiftRight(2);
        for (int k = 1; term.signum() != 0; k++) {
            BigInteger part = term.divide(BigInteger.valueOf((long) k * k * k));
            sum = k % 2 == 1 ? sum.add(part) : sum.subtract(part);
            term = term.multiply(BigInteger.valueOf(k + 1)).divide(BigInteger.valueOf(4L * k + 2));
        }
        return sum;
    }

    int mill(int which, int n, int newBase) {
        refuse(which < 0 || which > 4);
        places(n, newBase);
        return become(constant(which, n, newBase), newBase);
    }

    int root(long a, int n, int newBase) {
        refuse(a < 0);
        places(n, newBase);
        return become(BigInteger.valueOf(a).multiply(BigInteger.valueOf(newBase).pow(2 * n)).sqrt(), newBase);
    }

    int over(long a, long b, int n, int newBase) {
        refuse(a < 0 || b < 1);
        places(n, newBase);
        BigInteger scaled = BigInteger.valueOf(a).multiply(BigInteger.valueOf(newBase).pow(n));
        return become(scaled.divide(BigInteger.valueOf(b)), newBase);
    }

    int number(long a, int newBase) {
        refuse(a < 0);
        refuseBase(newBase);
        return become(BigInteger.valueOf(a), newBase);
    }

    int push(int digit) {
        refuse(digit < 0 || digit >= base);
        return becomeShort(text.multiply(BigInteger.valueOf(base)).add(BigInteger.valueOf(digit)));
    }

    void keep() {
        other = text;
        otherBase = base;
    }

    int swap() {
        BigInteger was = text;
        int wasBase = base;
        text = other;
        base = otherBase;
        other = was;
        otherBase = wasBase;
        return become(text, base);
    }

    int add() {
        return becomeShort(text.add(other));
    }

    int subtract() {
        if (text.compareTo(other) < 0) {
            throw new ArithmeticException();
        }
        return become(text.subtract(other), base);
    }

    int times() {
        return becomeShort(text.multiply(other));
    }

    int divide() {
        if (other.signum() == 0) {
            throw new ArithmeticException();
        }
        BigInteger[] both = text.divideAndRemainder(other);
        other = both[1];
        return become(both[0], base);
    }

    int rooted() {
        return become(text.sqrt(), base);
    }

    int convert(int newBase) {
        refuseBase(newBase);
        return become(text, newBase);
    }

    int digit(int i) {
        if (i < 0 || i >= digits().length()) {
            throw new IndexOutOfBoundsException();
        }
        return Character.digit(digits().charAt(i), 36);
    }

    int about(int what) {
        refuse(what < 0 || what > 3);
        int sum = 0;
        for (int i = 0; i < digits().length(); i++) {
            sum += digit(i);
        }
        return new int[] {digits().length(), text.bitLength(), base, sum}[what];
    }

    int count(int digit, int i, int k) {
        if (i < 0 || k >= digits().length()) {
            throw new IndexOutOfBoundsException();
        }
        int seen = 0;
        for (int place = i; place <= k; place++) {
            seen += digit(place) == digit ? 1 : 0;
        }
        return seen;
    }

    int find(long a, int n, int i) {
        refuse(n < 1 || n > 12 || a < 0 || i < 0);
        StringBuilder sought = new StringBuilder(Long.toString(a, base));
        refuse(sought.length() > n);
        while (sought.length() < n) {
            sought.insert(0, '0');
        }
        return digits().indexOf(sought.toString(), i);
    }

    int compare() {
        return text.compareTo(other);
    }

    String digits() {
        if (told == null) {
            told = text.toString(base);
        }
        return told;
    }

    private int become(BigInteger newText, int newBase) {
        text = newText;
        base = newBase;
        told = null;
        return digits().length();
    }

    private int becomeShort(BigInteger newText) {
        if (newText.bitLength() > LONGEST) {
            throw new UnsupportedOperationException();
        }
        return become(newText, base);
    }

    private static void places(int n, int newBase) {
        refuse(n < 0 || n > 6000);
        refuseBase(newBase);
        int bits = 0;
        while (1 << bits < newBase) {
            bits++;
        }
        if (n * bits > 20000) {
            throw new UnsupportedOperationException();
        }
    }

    private static void refuseBase(int newBase) {
        refuse(newBase < 2 || newBase > 36);
    }

    private static void refuse(boolean wrong) {
        if (wrong) {
            throw new IllegalArgumentException();
        }
    }
}
