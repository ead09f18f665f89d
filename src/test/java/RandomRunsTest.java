import java.util.Random;
import java.util.function.IntSupplier;

/** Runs of 512 calls, drawn from a fixed seed, against the model. */
public final class RandomRunsTest {
    private static final int RUNS = 120;
    private static final int CALLS = 512;
    private static final int[] EDGES = {-1, 0, 1, 2, 9, 10, 11, 12, 13, 35, 36, 37, 3333, 3334, 4000, 5000, 5001,
        6000, 6001, Integer.MAX_VALUE, Integer.MIN_VALUE};

    private final Random random;
    private final DigitMill mill = new DigitMill();
    private final Model model = new Model();
    private final String run;
    /** The greatest n that is often drawn, so that some runs stay small. */
    private final int size;

    private RandomRunsTest(int number) {
        random = new Random(number);
        run = "run " + number;
        size = number % 4 == 0 ? 6000 : number % 4 == 1 ? 300 : 20;
    }

    public static void main(String[] args) {
        for (int number = 0; number < RUNS; number++) {
            RandomRunsTest one = new RandomRunsTest(number);
            for (int call = 0; call < CALLS; call++) {
                one.step();
            }
        }
        Check.end("RandomRunsTest");
    }

    private void step() {
        switch (random.nextInt(random.nextInt(3) == 0 ? 21 : 15)) {
            case 0: same("push", pushed(), d -> mill.push(d), d -> model.push(d)); break;
            case 1: keep(); break;
            case 2: same("swap", mill::swap, model::swap); break;
            case 3: same("add", mill::add, model::add); break;
            case 4: same("subtract", mill::subtract, model::subtract); break;
            case 5: same("times", mill::times, model::times); break;
            case 6: same("divide", mill::divide, model::divide); break;
            case 7: same("convert", base(), b -> mill.convert(b), b -> model.convert(b)); break;
            case 8: same("digit", place(), i -> mill.digit(i), i -> model.digit(i)); break;
            case 9: same("about", random.nextInt(6) - 1, w -> mill.about(w), w -> model.about(w)); break;
            case 10: count(); break;
            case 11: find(); break;
            case 12: same("compare", mill::compare, model::compare); break;
            case 13: same("about", 3, w -> mill.about(w), w -> model.about(w)); break;
            case 14: same("about", 1, w -> mill.about(w), w -> model.about(w)); break;
            case 15: number(); break;
            case 16: root(); break;
            case 17: over(); break;
            case 18: same("rooted", mill::rooted, model::rooted); break;
            default: mill(); break;
        }
    }

    private interface Call {
        int of(int argument);
    }

    private void same(String name, IntSupplier got, IntSupplier want) {
        Check.due(run + " " + name, Check.answer(want), Check.answer(got));
    }

    private void same(String name, int argument, Call got, Call want) {
        same(name + "(" + argument + ")", () -> got.of(argument), () -> want.of(argument));
    }

    private void keep() {
        mill.keep();
        model.keep();
    }

    private void count() {
        int digit = random.nextInt(model.base + 2) - 1;
        int i = place();
        int k = place();
        same("count(" + digit + ", " + i + ", " + k + ")", () -> mill.count(digit, i, k), () -> model.count(digit, i, k));
    }

    /** Mostly digits that the text has somewhere. */
    private void find() {
        String digits = model.digits();
        int n = Math.min(digits.length(), 1 + random.nextInt(12));
        int at = random.nextInt(digits.length() - n + 1);
        long a = random.nextInt(5) == 0 ? number64() : Long.parseLong(digits.substring(at, at + n), model.base);
        int wide = random.nextInt(8) == 0 ? edge() : n;
        int i = random.nextInt(3) == 0 ? place() : random.nextInt(at + 1);
        same("find(" + a + ", " + wide + ", " + i + ")", () -> mill.find(a, wide, i), () -> model.find(a, wide, i));
    }

    private void number() {
        long a = number64();
        int base = base();
        same("number(" + a + ", " + base + ")", () -> mill.number(a, base), () -> model.number(a, base));
    }

    private void root() {
        long a = number64();
        int n = places();
        int base = base();
        same("root(" + a + ", " + n + ", " + base + ")", () -> mill.root(a, n, base), () -> model.root(a, n, base));
    }

    private void over() {
        long a = number64();
        long b = number64();
        int n = places();
        int base = base();
        same("over(" + a + ", " + b + ", " + n + ", " + base + ")",
            () -> mill.over(a, b, n, base), () -> model.over(a, b, n, base));
    }

    private void mill() {
        int which = random.nextInt(30) == 0 ? edge() : random.nextInt(5);
        int n = places();
        int base = base();
        same("mill(" + which + ", " + n + ", " + base + ")",
            () -> mill.mill(which, n, base), () -> model.mill(which, n, base));
    }

    private int edge() {
        return EDGES[random.nextInt(EDGES.length)];
    }

    private int base() {
        return random.nextInt(20) == 0 ? edge() : 2 + random.nextInt(35);
    }

    private int places() {
        return random.nextInt(20) == 0 ? edge() : random.nextInt(size);
    }

    private int pushed() {
        return random.nextInt(20) == 0 ? model.base : random.nextInt(model.base);
    }

    private int place() {
        int digits = model.digits().length();
        switch (random.nextInt(10)) {
            case 0: return edge();
            case 1: return digits;
            case 2: return digits - 1;
            case 3: return 0;
            default: return random.nextInt(digits);
        }
    }

    /** Of any length, with some below 0. */
    private long number64() {
        long drawn = random.nextLong() >>> random.nextInt(64);
        switch (random.nextInt(16)) {
            case 0: return -drawn;
            case 1: return Long.MAX_VALUE;
            default: return drawn & Long.MAX_VALUE;
        }
    }
}
