import java.util.function.IntSupplier;

/** Counts and prints the answers that are not the ones due. */
final class Check {
    private static int wrong = 0;
    private static int seen = 0;

    private Check() {
    }

    /** What a call answers, as a text, or throws. and the exception's name. */
    static String answer(IntSupplier call) {
        try {
            return Integer.toString(call.getAsInt());
        } catch (RuntimeException e) {
            return "throws." + e.getClass().getSimpleName();
        }
    }

    static void due(String what, Object want, Object got) {
        seen++;
        if (!want.equals(got)) {
            wrong++;
            System.out.println(what + " answered " + got + ", due is " + want);
        }
    }

    static void due(String what, int want, IntSupplier call) {
        due(what, Integer.toString(want), answer(call));
    }

    static void wrongArgument(String what, IntSupplier call) {
        due(what, "throws.IllegalArgumentException", answer(call));
    }

    static void unsupported(String what, IntSupplier call) {
        due(what, "throws.UnsupportedOperationException", answer(call));
    }

    static void outOfBounds(String what, IntSupplier call) {
        due(what, "throws.IndexOutOfBoundsException", answer(call));
    }

    static void arithmetic(String what, IntSupplier call) {
        due(what, "throws.ArithmeticException", answer(call));
    }

    /**
     * The digits of the text, twelve a call by find; of a text too long for
     * the 512 calls of an object's life evenly spread ones, and the sum of all.
     */
    static void text(String what, String digits, int base, DigitMill mill) {
        due(what + ": how many digits", digits.length(), () -> mill.about(0));
        due(what + ": base", base, () -> mill.about(2));
        due(what + ": sum", digits.chars().map(c -> Character.digit(c, 36)).sum(), () -> mill.about(3));
        int step = 12 * (1 + digits.length() / (12 * 400));
        for (int from = 0; from < digits.length(); from += step) {
            int start = from;
            String window = digits.substring(start, Math.min(digits.length(), start + 12));
            long value = Long.parseLong(window, base);
            due(what + ": digits " + window + " at " + start, start, () -> mill.find(value, window.length(), start));
        }
    }

    static void end(String test) {
        System.out.println(test + ": " + seen + " answers, " + wrong + " of them wrong");
        if (wrong != 0) {
            System.exit(1);
        }
    }
}
