import java.util.function.Consumer;

/** Promises 5 to 10: value, apply, compose, inverse, measure, is. */
final class FunctionsTest {
    private static final Class<?> NO_INDEX = IndexOutOfBoundsException.class;
    private static final Class<?> NO_ARGUMENT = IllegalArgumentException.class;
    private static final Class<?> NO_STATE = IllegalStateException.class;
    private static final long X = 0xFEDCBA9876543210L;
    // In these the value of the input 0 stands last.
    private static final long REVERSED = 0x0123456789ABCDEFL;
    private static final long NEXT = 0x0FEDCBA987654321L;
    private static final long ONE_LESS_BUT_0 = 0xEDCBA98765432100L;
    private static final long ONE = 0x1111111111111111L;
    private static final Check CHECK = new Check("FunctionsTest");

    // An object is used for at most 512 calls: each check has its own.
    private static TrickFinder finder() {
        return new TrickFinder();
    }

    public static void main(String[] args) {
        checkValue();
        checkApply();
        checkApplyToAllPairs();
        checkCompose();
        checkInverse();
        checkInversesOfAllPairs();
        checkMeasure();
        checkEndsOfMeasures();
        checkIs();
        checkLastInputsMatter();
        CHECK.finish();
    }

    private static void refuses(String what, Class<?> kind, Consumer<TrickFinder> call) {
        TrickFinder finder = finder();
        CHECK.isRefused(what, finder, kind, () -> call.accept(finder));
    }

    private static void checkValue() {
        for (int x = 0; x < 16; x++) {
            CHECK.same("value of x at " + x, finder().value(X, x), x);
            CHECK.same("value of ~x at " + x, finder().value(REVERSED, x), 15 - x);
            CHECK.same("value of -1 at " + x, finder().value(-1, x), 15);
        }
        for (int x : new int[] {-1, 16, Integer.MIN_VALUE, Integer.MAX_VALUE}) {
            refuses("value(0, " + x + ")", NO_ARGUMENT, finder -> finder.value(0, x));
        }
    }

    private static void checkApply() {
        CHECK.same("~x", finder().apply(0, X, 5), REVERSED);
        CHECK.same("-x", finder().apply(1, X, 5), 0x123456789ABCDEF0L);
        CHECK.same("<x", finder().apply(2, X, 5), 0xECA86420ECA86420L);
        CHECK.same(">x", finder().apply(3, X, 5), 0x7766554433221100L);
        CHECK.same("x&1", finder().apply(4, X, ONE), 0x1010101010101010L);
        CHECK.same("x|1", finder().apply(5, X, ONE), 0xFFDDBB9977553311L);
        CHECK.same("x^1", finder().apply(6, X, ONE), 0xEFCDAB8967452301L);
        CHECK.same("x+1", finder().apply(7, X, ONE), NEXT);
        CHECK.same("x-1", finder().apply(8, X, ONE), 0xEDCBA9876543210FL);
        CHECK.same("1-x", finder().apply(8, ONE, X), 0x23456789ABCDEF01L);
        CHECK.same("x*x", finder().apply(9, X, X), 0x1490941014909410L);
        for (int op : new int[] {-1, 10, Integer.MIN_VALUE, Integer.MAX_VALUE}) {
            refuses("apply(" + op + ", 0, 0)", NO_INDEX, finder -> finder.apply(op, 0, 0));
        }
        TrickFinder nothingAllowed = new TrickFinder();
        nothingAllowed.allow(7, false);
        CHECK.same("an operation that is not allowed", nothingAllowed.apply(7, X, ONE), NEXT);
    }

    private static int remainder(int value) {
        return Math.floorMod(value, 16);
    }

    private static void checkApplyToAllPairs() {
        for (int b = 0; b < 16; b++) {
            long g = b * ONE;
            for (int a = 0; a < 16; a++) {
                String pair = " of " + a + " and " + b;
                CHECK.same("~" + pair, finder().value(finder().apply(0, X, g), a), 15 - a);
                CHECK.same("- of one" + pair, finder().value(finder().apply(1, X, g), a), remainder(-a));
                CHECK.same("<" + pair, finder().value(finder().apply(2, X, g), a), remainder(2 * a));
                CHECK.same(">" + pair, finder().value(finder().apply(3, X, g), a), a / 2);
                CHECK.same("&" + pair, finder().value(finder().apply(4, X, g), a), a & b);
                CHECK.same("|" + pair, finder().value(finder().apply(5, X, g), a), a | b);
                CHECK.same("^" + pair, finder().value(finder().apply(6, X, g), a), a ^ b);
                CHECK.same("+" + pair, finder().value(finder().apply(7, X, g), a), remainder(a + b));
                CHECK.same("-" + pair, finder().value(finder().apply(8, X, g), a), remainder(a - b));
                CHECK.same("*" + pair, finder().value(finder().apply(9, X, g), a), remainder(a * b));
            }
        }
    }

    private static void checkCompose() {
        CHECK.same("compose(f, x)", finder().compose(0x8F3A5C7E11D2B496L, X), 0x8F3A5C7E11D2B496L);
        CHECK.same("compose(x, f)", finder().compose(X, 0x8F3A5C7E11D2B496L), 0x8F3A5C7E11D2B496L);
        CHECK.same("(x+1)*2", finder().compose(0xECA86420ECA86420L, NEXT), 0x0ECA86420ECA8642L);
        CHECK.same("x*2+1", finder().compose(NEXT, 0xECA86420ECA86420L), 0xFDB97531FDB97531L);
        CHECK.same("a constant first", finder().compose(NEXT, 0), ONE);
    }

    private static void checkInverse() {
        CHECK.same("inverse of x", finder().inverse(X), X);
        CHECK.same("inverse of ~x", finder().inverse(REVERSED), REVERSED);
        CHECK.same("inverse of x+1", finder().inverse(NEXT), 0xEDCBA9876543210FL);
        long odd = finder().apply(9, X, 3 * ONE);
        CHECK.same("inverse of x*3", finder().inverse(odd), finder().apply(9, X, 11 * ONE));
        CHECK.same("compose with it", finder().compose(odd, finder().inverse(odd)), X);
        for (long f : new long[] {0, -1, ONE, ONE_LESS_BUT_0, 0xEEDCBA9876543210L, 0xFEDCBA987654321FL}) {
            refuses("inverse of " + f, NO_STATE, finder -> finder.inverse(f));
        }
    }

    // Two inputs that change places, and all inputs moved on: each with its inverse
    private static void checkInversesOfAllPairs() {
        for (int a = 0; a < 16; a++) {
            for (int b = 0; b < 16; b++) {
                long f = X ^ (long) (a ^ b) << 4 * a ^ (a == b ? 0 : (long) (a ^ b) << 4 * b);
                CHECK.same("inverse where " + a + " and " + b + " change places", finder().inverse(f), f);
            }
            long more = finder().apply(7, X, a * ONE);
            CHECK.same("inverse of x+" + a, finder().inverse(more), finder().apply(8, X, a * ONE));
            CHECK.same("compose(f, inverse(f)) of x+" + a, finder().compose(more, finder().inverse(more)), X);
        }
    }

    private static void checkMeasures(String name, long f, int... due) {
        for (int what = 0; what < 5; what++) {
            CHECK.same("measure of " + name + ", " + what, finder().measure(f, what), due[what]);
        }
    }

    private static void checkMeasure() {
        checkMeasures("x", X, 16, 16, 0, 16, 0);
        checkMeasures("~x", REVERSED, 0, 16, 64, 16, 0);
        checkMeasures("0", 0, 1, 1, 32, 1, 1);
        checkMeasures("x+1", NEXT, 0, 16, 30, 16, 0);
        checkMeasures("x less 1 down to 0", ONE_LESS_BUT_0, 1, 15, 26, 1, 15);
        checkMeasures("<x", 0xECA86420ECA86420L, 1, 8, 32, 1, 4);
        checkMeasures(">x", 0x7766554433221100L, 1, 8, 32, 1, 4);
        checkMeasures("x&1", 0x1010101010101010L, 2, 2, 24, 2, 1);
        // 0 and 1 change places, all others go to 0.
        checkMeasures("a pair and a tail", 0x1L, 0, 2, 33, 2, 1);
        for (int what : new int[] {-1, 5, Integer.MIN_VALUE, Integer.MAX_VALUE}) {
            refuses("measure(0, " + what + ")", NO_INDEX, finder -> finder.measure(0, what));
        }
    }

    private static void checkMeasured(String name, int what, long f, int due) {
        CHECK.same("measure of " + name, finder().measure(f, what), due);
    }

    // The least and the greatest answer that each measure can have.
    private static void checkEndsOfMeasures() {
        checkMeasured("x: inputs that have themselves", 0, X, 16);
        checkMeasured("~x: inputs that have themselves", 0, REVERSED, 0);
        checkMeasured("x but for 0: inputs that have themselves", 0, X | 1, 15);
        checkMeasured("x but for 15: inputs that have themselves", 0, X ^ Long.MIN_VALUE, 15);
        checkMeasured("15: different values", 1, -1, 1);
        checkMeasured("x: different values", 1, X, 16);
        checkMeasured("15 for 15, else 0: different values", 1, 15L << 60, 2);
        checkMeasured("x: bits", 2, X, 0);
        checkMeasured("~x: bits", 2, REVERSED, 64);
        checkMeasured("x but for the highest bit of 15: bits", 2, X ^ Long.MIN_VALUE, 1);
        checkMeasured("15: inputs that come back", 3, -1, 1);
        checkMeasured("x+1: inputs that come back, after 16 steps", 3, NEXT, 16);
        checkMeasured("x+1 down to 1: inputs that come back", 3, NEXT | 1L << 60, 15);
        // "the least number n (0, too)"
        checkMeasured("x: steps", 4, X, 0);
        checkMeasured("x+1: steps", 4, NEXT, 0);
        checkMeasured("15: steps", 4, -1, 1);
        checkMeasured("x+1 down to 1: steps", 4, NEXT | 1L << 60, 1);
        checkMeasured("x less 1 down to 0: steps", 4, ONE_LESS_BUT_0, 15);
        checkMeasured("x less 1 down to 0 and back to 1: steps", 4, ONE_LESS_BUT_0 | 1, 14);
        checkMeasured("x more 1 up to 15: steps", 4, NEXT | 15L << 60, 15);
    }

    private static void checkAnswers(String name, long f, String due) {
        for (int what = 0; what < 4; what++) {
            String got = finder().is(f, what) ? "y" : "n";
            CHECK.isTrue("is of " + name + ", " + what + ":", got.equals("" + due.charAt(what)));
        }
    }

    private static void checkIs() {
        checkAnswers("x", X, "yyyy");
        checkAnswers("0", 0, "yyyy");
        checkAnswers("1", ONE, "nyyy");
        checkAnswers("~x", REVERSED, "nnny");
        checkAnswers("<x", 0xECA86420ECA86420L, "ynny");
        checkAnswers(">x", 0x7766554433221100L, "yynn");
        checkAnswers("x+1", NEXT, "nnny");
        checkAnswers("x&1", 0x1010101010101010L, "ynyy");
        checkAnswers("x|8", finder().apply(5, X, 8 * ONE), "nnyy");
        checkAnswers("x less 1 down to 0", ONE_LESS_BUT_0, "nynn");
        checkAnswers("x, but 15 for 14", 0xFFDCBA9876543210L, "nyyn");
        checkAnswers("x, but 0 for 15", 0x0EDCBA9876543210L, "nnyn");
        // Only the bit 3 of a value may depend on all bits of the input.
        checkAnswers("8 for 15, else 0", 0x8000000000000000L, "nyny");
        checkAnswers("4 for 15, else 0", 0x4000000000000000L, "nynn");
        checkAnswers("2 for 15, else 0", 0x2000000000000000L, "nynn");
        checkAnswers("1 for 15, else 0", 0x1000000000000000L, "nynn");
        checkAnswers("4 for 15 and 7, else 0", 0x4000000040000000L, "nnny");
        for (int what : new int[] {-1, 4, Integer.MIN_VALUE, Integer.MAX_VALUE}) {
            refuses("is(0, " + what + ")", NO_INDEX, finder -> finder.is(0, what));
        }
    }

    // One value at the first or at the last input decides: "for all a and b", "a greater input never"
    private static void checkLastInputsMatter() {
        for (int x = 0; x < 16; x++) {
            for (int value = 0; value < 16; value++) {
                long f = X & ~(15L << 4 * x) | (long) value << 4 * x;
                String name = "is of x, but " + value + " for " + x + ", ";
                boolean isRising = value >= x - 1 && value <= x + 1 && (x > 0 || value <= 1);
                CHECK.same(name + 0, finder().is(f, 0) ? 1 : 0, value == x ? 1 : 0);
                CHECK.same(name + 1, finder().is(f, 1) ? 1 : 0, isRising ? 1 : 0);
                // The value for x is another input, which has itself as its value.
                CHECK.same(name + 2, finder().is(f, 2) ? 1 : 0, 1);
                CHECK.same(name + 3, finder().is(f, 3) ? 1 : 0, isOfLowerBits(x, value) ? 1 : 0);
            }
        }
    }

    // Of the inputs only one has another bit 3 with these lower bits; for the lower bits there are more.
    private static boolean isOfLowerBits(int x, int value) {
        return (x ^ value) % 8 == 0;
    }
}
