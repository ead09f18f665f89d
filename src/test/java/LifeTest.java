import java.util.function.ToIntFunction;

/** "An object is used for at most 512 calls": the last of them is answered as well as the first. */
public final class LifeTest {
    private static final int CALLS = 512;

    public static void main(String[] args) {
        lastCallMakes();
        lastCallReckons();
        lastCallLooks();
        lastCallIsRefused();
        pushesAlone();
        swapsAlone();
        millsAlone();
        refusalsAlone();
        Check.end("LifeTest");
    }

    /** 511 calls on a new object, the last of them making the text 4711 in base 12 and the other 815 in base 7. */
    private static DigitMill nearItsEnd() {
        DigitMill x = new DigitMill();
        for (int i = 0; i < CALLS - 4; i++) {
            anyCall(x, i);
        }
        x.number(815, 7);
        x.keep();
        x.number(4711, 12);
        return x;
    }

    private static void anyCall(DigitMill x, int i) {
        switch (i % 16) {
            case 0: x.mill(i / 16 % 5, 100 + i, 2 + i % 35); break;
            case 1: x.keep(); break;
            case 2: x.root(i, 100, 36); break;
            case 3: x.times(); break;
            case 4: x.swap(); break;
            case 5: x.over(i, 7, i, 16); break;
            case 6: x.add(); break;
            case 7: x.push(1); break;
            case 8: x.divide(); break;
            case 9: x.convert(2 + i / 16); break;
            case 10: x.rooted(); break;
            case 11: x.find(0, 1, 0); break;
            case 12: x.count(0, 0, 0); break;
            case 13: x.digit(0); break;
            case 14: x.compare(); break;
            default: x.about(3); break;
        }
    }

    private static void last(String what, int want, ToIntFunction<DigitMill> call) {
        DigitMill x = nearItsEnd();
        Check.due("call 512, " + what, want, () -> call.applyAsInt(x));
    }

    private static void lastRefused(String what, String exception, ToIntFunction<DigitMill> call) {
        DigitMill x = nearItsEnd();
        Check.due("call 512, " + what, "throws." + exception, Check.answer(() -> call.applyAsInt(x)));
    }

    private static void lastCallMakes() {
        last("mill", 11, x -> x.mill(0, 10, 10));
        last("mill to the most places", 5000, x -> x.mill(3, 5000, 16));
        last("root", 11, x -> x.root(2, 10, 10));
        last("over", 12, x -> x.over(1, 7, 12, 10));
        last("number", 2, x -> x.number(255, 16));
        last("push", 5, x -> x.push(11));
        last("convert", 13, x -> x.convert(2));
        last("swap", 4, DigitMill::swap);
        last("keep", 0, x -> {
            x.keep();
            return 0;
        });
    }

    private static void lastCallReckons() {
        last("add", 4, DigitMill::add);
        last("subtract", 4, DigitMill::subtract);
        last("times", 7, DigitMill::times);
        last("divide", 1, DigitMill::divide);
        last("rooted", 2, DigitMill::rooted);
        last("compare", 1, DigitMill::compare);
    }

    private static void lastCallLooks() {
        last("the first digit", 2, x -> x.digit(0));
        last("the last digit", 7, x -> x.digit(3));
        last("how many digits", 4, x -> x.about(0));
        last("length", 13, x -> x.about(1));
        last("base", 12, x -> x.about(2));
        last("sum", 25, x -> x.about(3));
        last("count", 2, x -> x.count(8, 0, 3));
        last("find", 1, x -> x.find(8 * 12 + 8, 2, 0));
        last("find nothing", DigitMill.NONE, x -> x.find(9, 1, 0));
    }

    private static void lastCallIsRefused() {
        lastRefused("mill", "UnsupportedOperationException", x -> x.mill(0, 5001, 16));
        lastRefused("root", "IllegalArgumentException", x -> x.root(-1, 10, 10));
        lastRefused("over", "IllegalArgumentException", x -> x.over(1, 0, 10, 10));
        lastRefused("push", "IllegalArgumentException", x -> x.push(12));
        lastRefused("digit", "IndexOutOfBoundsException", x -> x.digit(4));
        lastRefused("count", "IndexOutOfBoundsException", x -> x.count(8, 0, 4));
    }

    private static void pushesAlone() {
        DigitMill x = new DigitMill();
        for (int i = 1; i <= CALLS; i++) {
            Check.due("push " + i, i, () -> x.push(9));
        }
    }

    private static void swapsAlone() {
        DigitMill x = new DigitMill();
        x.mill(0, 99, 10);
        for (int i = 2; i <= CALLS; i++) {
            Check.due("swap " + i, i % 2 == 0 ? 1 : 100, x::swap);
        }
    }

    /** The dearest calls, each deeper than the one before, and the digits of the last. */
    private static void millsAlone() {
        DigitMill x = new DigitMill();
        for (int i = 1; i < CALLS; i++) {
            int which = i % 5;
            int n = Math.min(5000, 10 * i);
            Check.due("mill " + i, which == 3 ? n : n + 1, () -> x.mill(which, n, 16));
        }
        String want = Model.constant(1, 5000, 16).toString(16);
        Check.due("sum after 511 calls of mill", Stand.sum(want), () -> x.about(3));
    }

    private static void refusalsAlone() {
        DigitMill x = new DigitMill();
        for (int i = 1; i < CALLS; i++) {
            Check.unsupported("refused " + i, () -> x.mill(0, 6000, 36));
        }
        Check.due("after 511 refused calls", 5001, () -> x.mill(0, 5000, 10));
    }
}
