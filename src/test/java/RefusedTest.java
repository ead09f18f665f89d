import java.math.BigInteger;
import java.util.ArrayList;
import java.util.List;
import java.util.function.Supplier;

/** "A call that throws changes nothing": each refused call, on objects in many states, each of them new. */
public final class RefusedTest {
    private static final String ARGUMENT = "IllegalArgumentException";
    private static final String UNSUPPORTED = "UnsupportedOperationException";
    private static final String PLACE = "IndexOutOfBoundsException";
    private static final String ARITHMETIC = "ArithmeticException";

    private interface Call {
        int on(Stand stand);
    }

    private static final class Refused {
        final String what;
        final String exception;
        final Call call;

        Refused(String what, String exception, Call call) {
            this.what = what;
            this.exception = exception;
            this.call = call;
        }
    }

    private static final List<Refused> ALWAYS = new ArrayList<>();
    private static int state;

    public static void main(String[] args) {
        millRefused();
        rootRefused();
        overRefused();
        digitsRefused();
        placesRefused();
        inEachState();
        whatTheStateRefuses();
        manyInTurn();
        Check.end("RefusedTest");
    }

    private static void refused(String what, String exception, Call call) {
        ALWAYS.add(new Refused(what, exception, call));
    }

    private static void millRefused() {
        refused("2 which -1", ARGUMENT, s -> s.mill.mill(-1, 10, 10));
        refused("2 which 5", ARGUMENT, s -> s.mill.mill(5, 10, 10));
        refused("2 n -1", ARGUMENT, s -> s.mill.mill(0, -1, 10));
        refused("2 n 6001", ARGUMENT, s -> s.mill.mill(1, 6001, 2));
        refused("2 base 1", ARGUMENT, s -> s.mill.mill(3, 10, 1));
        refused("2 base 37", ARGUMENT, s -> s.mill.mill(4, 10, 37));
        refused("2 room 20004", UNSUPPORTED, s -> s.mill.mill(0, 5001, 16));
        refused("2 room 20004, golden", UNSUPPORTED, s -> s.mill.mill(2, 3334, 36));
        refused("2 which before room", ARGUMENT, s -> s.mill.mill(5, 6000, 36));
    }

    private static void rootRefused() {
        refused("3 a -1", ARGUMENT, s -> s.mill.root(-1, 10, 10));
        refused("3 n -1", ARGUMENT, s -> s.mill.root(2, -1, 10));
        refused("3 n 6001", ARGUMENT, s -> s.mill.root(2, 6001, 2));
        refused("3 base 1", ARGUMENT, s -> s.mill.root(2, 10, 1));
        refused("3 base 37", ARGUMENT, s -> s.mill.root(2, 10, 37));
        refused("3 room 20005", UNSUPPORTED, s -> s.mill.root(2, 4001, 32));
        refused("3 a before room", ARGUMENT, s -> s.mill.root(-1, 6000, 36));
    }

    private static void overRefused() {
        refused("4 a -1", ARGUMENT, s -> s.mill.over(-1, 1, 10, 10));
        refused("4 b 0", ARGUMENT, s -> s.mill.over(1, 0, 10, 10));
        refused("4 b -1", ARGUMENT, s -> s.mill.over(1, -1, 10, 10));
        refused("4 n -1", ARGUMENT, s -> s.mill.over(1, 3, -1, 10));
        refused("4 n 6001", ARGUMENT, s -> s.mill.over(1, 3, 6001, 2));
        refused("4 base 1", ARGUMENT, s -> s.mill.over(1, 3, 10, 1));
        refused("4 base 37", ARGUMENT, s -> s.mill.over(1, 3, 10, 37));
        refused("4 room 20004", UNSUPPORTED, s -> s.mill.over(1, 3, 3334, 33));
        refused("4 b before room", ARGUMENT, s -> s.mill.over(1, 0, 6000, 36));
    }

    private static void digitsRefused() {
        refused("5 a -1", ARGUMENT, s -> s.mill.number(-1, 10));
        refused("5 base 1", ARGUMENT, s -> s.mill.number(1, 1));
        refused("5 base 37", ARGUMENT, s -> s.mill.number(1, 37));
        refused("6 digit -1", ARGUMENT, s -> s.mill.push(-1));
        refused("6 digit of the next base", ARGUMENT, s -> s.mill.push(s.base));
        refused("14 base 1", ARGUMENT, s -> s.mill.convert(1));
        refused("14 base 37", ARGUMENT, s -> s.mill.convert(37));
        refused("16 what -1", ARGUMENT, s -> s.mill.about(-1));
        refused("16 what 4", ARGUMENT, s -> s.mill.about(4));
    }

    private static void placesRefused() {
        refused("15 place -1", PLACE, s -> s.mill.digit(-1));
        refused("15 behind the last", PLACE, s -> s.mill.digit(s.digits().length()));
        refused("17 i -1", PLACE, s -> s.mill.count(0, -1, 0));
        refused("17 i -1, above k", PLACE, s -> s.mill.count(0, -1, -2));
        refused("17 k behind the last", PLACE, s -> s.mill.count(0, 0, s.digits().length()));
        refused("17 k behind the last, i above", PLACE, s -> s.mill.count(s.base, Integer.MAX_VALUE, s.digits().length()));
        refused("18 n 0", ARGUMENT, s -> s.mill.find(0, 0, 0));
        refused("18 n 13", ARGUMENT, s -> s.mill.find(0, 13, 0));
        refused("18 one digit too many", ARGUMENT, s -> s.mill.find(s.base, 1, 0));
        refused("18 a -1", ARGUMENT, s -> s.mill.find(-1, 1, 0));
        refused("18 i -1", ARGUMENT, s -> s.mill.find(0, 1, -1));
    }

    private static void inEachState() {
        state(Stand::fresh);
        state(() -> Stand.small(4711, 12, 815, 7));
        state(() -> Stand.small(0, 36, Long.MAX_VALUE, 2));
        state(Stand::constants);
        state(Stand::divided);
        state(Stand::factors);
        state(() -> Stand.nearLongest(0, 2, 1, 36));
        state(() -> Stand.nearLongest(0, 33, 0, 36));
    }

    private static void state(Supplier<Stand> maker) {
        state++;
        for (Refused one : ALWAYS) {
            Stand stand = maker.get();
            stand.refuses("state " + state + ", " + one.what, one.exception, x -> one.call.on(stand));
        }
    }

    /** Calls that are refused for what the numbers are. */
    private static void whatTheStateRefuses() {
        Stand.nearLongest(0, 10, 1, 36).refuses("6 too long", UNSUPPORTED, x -> x.push(0));
        Stand.nearLongest(0, 10, 1, 36).refuses("6 no digit, and too long", ARGUMENT, x -> x.push(10));
        Stand.nearLongest(0, 10, 1, 36).refuses("9 too long", UNSUPPORTED, DigitMill::add);
        Stand.power(23999).refuses("9 too long", UNSUPPORTED, DigitMill::add);
        Stand.small(7, 3, 8, 4).refuses("10 the other is greater", ARITHMETIC, DigitMill::subtract);
        Stand.small(0, 10, 1, 2).refuses("10 the other is greater", ARITHMETIC, DigitMill::subtract);
        Stand swapped = Stand.nearLongest(0, 10, 5, 7);
        swapped.mill.swap();
        swapped.swapped();
        swapped.refuses("10 the other is the longest", ARITHMETIC, DigitMill::subtract);
        Stand.nearLongest(0, 10, 2, 36).refuses("11 too long", UNSUPPORTED, DigitMill::times);
        Stand.power(12000).refuses("11 too long", UNSUPPORTED, DigitMill::times);
        Stand.constants().refuses("11 far too long", UNSUPPORTED, DigitMill::times);
        Stand.fresh().refuses("12 by 0", ARITHMETIC, DigitMill::divide);
        Stand.small(5, 7, 0, 3).refuses("12 by 0", ARITHMETIC, DigitMill::divide);
        Stand.nearLongest(0, 10, 0, 36).refuses("12 by 0", ARITHMETIC, DigitMill::divide);
    }

    /** All of them on one object, which then goes on as if none had been made. */
    private static void manyInTurn() {
        Stand stand = Stand.constants();
        for (Refused one : ALWAYS) {
            Check.due("in turn, " + one.what, "throws." + one.exception, Check.answer(() -> one.call.on(stand)));
        }
        stand.holds("after all refused calls");
        BigInteger pushed = stand.text.multiply(BigInteger.TEN).add(BigInteger.valueOf(9));
        stand.makes("a push after all refused calls", pushed, x -> x.push(9));
        BigInteger[] both = stand.text.divideAndRemainder(stand.other);
        stand.makesBoth("a division after all refused calls", both[0], 10, both[1], DigitMill::divide);
    }
}
