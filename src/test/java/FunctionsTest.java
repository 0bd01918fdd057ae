/** Promises 5 to 10: value, apply, compose, inverse, measure, is. */
final class FunctionsTest {
    private static final Class<?> NO_INDEX = IndexOutOfBoundsException.class;
    private static final Class<?> NO_ARGUMENT = IllegalArgumentException.class;
    private static final Class<?> NO_STATE = IllegalStateException.class;
    private static final long X = 0xFEDCBA9876543210L;
    // In these the value of the input 0 stands last.
    private static final long REVERSED = 0x0123456789ABCDEFL;
    private static final long NEXT = 0x0FEDCBA987654321L;
    private static final long ONE_LESS_BUT_0 = 0xEDCBA98765432100L;
    private static final long ONE = 0x1111111111111111L;
    private static final Check CHECK = new Check("FunctionsTest");

    private static final TrickFinder FINDER = new TrickFinder();

    public static void main(String[] args) {
        checkValue();
        checkApply();
        checkApplyToAllPairs();
        checkCompose();
        checkInverse();
        checkMeasure();
        checkIs();
        CHECK.finish();
    }

    private static void checkValue() {
        for (int x = 0; x < 16; x++) {
            CHECK.same("value of x at " + x, FINDER.value(X, x), x);
            CHECK.same("value of ~x at " + x, FINDER.value(REVERSED, x), 15 - x);
            CHECK.same("value of -1 at " + x, FINDER.value(-1, x), 15);
        }
        for (int x : new int[] {-1, 16, Integer.MIN_VALUE, Integer.MAX_VALUE}) {
            CHECK.isRefused("value(0, " + x + ")", FINDER, NO_ARGUMENT, () -> FINDER.value(0, x));
        }
    }

    private static void checkApply() {
        CHECK.same("~x", FINDER.apply(0, X, 5), REVERSED);
        CHECK.same("-x", FINDER.apply(1, X, 5), 0x123456789ABCDEF0L);
        CHECK.same("<x", FINDER.apply(2, X, 5), 0xECA86420ECA86420L);
        CHECK.same(">x", FINDER.apply(3, X, 5), 0x7766554433221100L);
        CHECK.same("x&1", FINDER.apply(4, X, ONE), 0x1010101010101010L);
        CHECK.same("x|1", FINDER.apply(5, X, ONE), 0xFFDDBB9977553311L);
        CHECK.same("x^1", FINDER.apply(6, X, ONE), 0xEFCDAB8967452301L);
        CHECK.same("x+1", FINDER.apply(7, X, ONE), NEXT);
        CHECK.same("x-1", FINDER.apply(8, X, ONE), 0xEDCBA9876543210FL);
        CHECK.same("1-x", FINDER.apply(8, ONE, X), 0x23456789ABCDEF01L);
        CHECK.same("x*x", FINDER.apply(9, X, X), 0x1490941014909410L);
        for (int op : new int[] {-1, 10, Integer.MIN_VALUE, Integer.MAX_VALUE}) {
            CHECK.isRefused("apply(" + op + ", 0, 0)", FINDER, NO_INDEX, () -> FINDER.apply(op, 0, 0));
        }
        TrickFinder nothingAllowed = new TrickFinder();
        nothingAllowed.allow(7, false);
        CHECK.same("an operation that is not allowed", nothingAllowed.apply(7, X, ONE), NEXT);
    }

    private static int remainder(int value) {
        return Math.floorMod(value, 16);
    }

    private static void checkApplyToAllPairs() {
        for (int b = 0; b < 16; b++) {
            long g = b * ONE;
            for (int a = 0; a < 16; a++) {
                String pair = " of " + a + " and " + b;
                CHECK.same("~" + pair, FINDER.value(FINDER.apply(0, X, g), a), 15 - a);
                CHECK.same("- of one" + pair, FINDER.value(FINDER.apply(1, X, g), a), remainder(-a));
                CHECK.same("<" + pair, FINDER.value(FINDER.apply(2, X, g), a), remainder(2 * a));
                CHECK.same(">" + pair, FINDER.value(FINDER.apply(3, X, g), a), a / 2);
                CHECK.same("&" + pair, FINDER.value(FINDER.apply(4, X, g), a), a & b);
                CHECK.same("|" + pair, FINDER.value(FINDER.apply(5, X, g), a), a | b);
                CHECK.same("^" + pair, FINDER.value(FINDER.apply(6, X, g), a), a ^ b);
                CHECK.same("+" + pair, FINDER.value(FINDER.apply(7, X, g), a), remainder(a + b));
                CHECK.same("-" + pair, FINDER.value(FINDER.apply(8, X, g), a), remainder(a - b));
                CHECK.same("*" + pair, FINDER.value(FINDER.apply(9, X, g), a), remainder(a * b));
            }
        }
    }

    private static void checkCompose() {
        CHECK.same("compose(f, x)", FINDER.compose(0x8F3A5C7E11D2B496L, X), 0x8F3A5C7E11D2B496L);
        CHECK.same("compose(x, f)", FINDER.compose(X, 0x8F3A5C7E11D2B496L), 0x8F3A5C7E11D2B496L);
        CHECK.same("(x+1)*2", FINDER.compose(0xECA86420ECA86420L, NEXT), 0x0ECA86420ECA8642L);
        CHECK.same("x*2+1", FINDER.compose(NEXT, 0xECA86420ECA86420L), 0xFDB97531FDB97531L);
        CHECK.same("a constant first", FINDER.compose(NEXT, 0), ONE);
    }

    private static void checkInverse() {
        CHECK.same("inverse of x", FINDER.inverse(X), X);
        CHECK.same("inverse of ~x", FINDER.inverse(REVERSED), REVERSED);
        CHECK.same("inverse of x+1", FINDER.inverse(NEXT), 0xEDCBA9876543210FL);
        long odd = FINDER.apply(9, X, 3 * ONE);
        CHECK.same("inverse of x*3", FINDER.inverse(odd), FINDER.apply(9, X, 11 * ONE));
        CHECK.same("compose with it", FINDER.compose(odd, FINDER.inverse(odd)), X);
        for (long f : new long[] {0, -1, ONE, ONE_LESS_BUT_0, 0xEEDCBA9876543210L, 0xFEDCBA987654321FL}) {
            CHECK.isRefused("inverse of " + f, FINDER, NO_STATE, () -> FINDER.inverse(f));
        }
    }

    private static void checkMeasures(String name, long f, int... due) {
        for (int what = 0; what < 5; what++) {
            CHECK.same("measure of " + name + ", " + what, FINDER.measure(f, what), due[what]);
        }
    }

    private static void checkMeasure() {
        checkMeasures("x", X, 16, 16, 0, 16, 0);
        checkMeasures("~x", REVERSED, 0, 16, 64, 16, 0);
        checkMeasures("0", 0, 1, 1, 32, 1, 1);
        checkMeasures("x+1", NEXT, 0, 16, 30, 16, 0);
        checkMeasures("x less 1 down to 0", ONE_LESS_BUT_0, 1, 15, 26, 1, 15);
        checkMeasures("<x", 0xECA86420ECA86420L, 1, 8, 32, 1, 4);
        checkMeasures(">x", 0x7766554433221100L, 1, 8, 32, 1, 4);
        checkMeasures("x&1", 0x1010101010101010L, 2, 2, 24, 2, 1);
        // 0 and 1 change places, all others go to 0.
        checkMeasures("a pair and a tail", 0x1L, 0, 2, 33, 2, 1);
        for (int what : new int[] {-1, 5, Integer.MIN_VALUE, Integer.MAX_VALUE}) {
            CHECK.isRefused("measure(0, " + what + ")", FINDER, NO_INDEX, () -> FINDER.measure(0, what));
        }
    }

    private static void checkAnswers(String name, long f, String due) {
        for (int what = 0; what < 4; what++) {
            String got = FINDER.is(f, what) ? "y" : "n";
            CHECK.isTrue("is of " + name + ", " + what + ":", got.equals("" + due.charAt(what)));
        }
    }

    private static void checkIs() {
        checkAnswers("x", X, "yyyy");
        checkAnswers("0", 0, "yyyy");
        checkAnswers("1", ONE, "nyyy");
        checkAnswers("~x", REVERSED, "nnny");
        checkAnswers("<x", 0xECA86420ECA86420L, "ynny");
        checkAnswers(">x", 0x7766554433221100L, "yynn");
        checkAnswers("x+1", NEXT, "nnny");
        checkAnswers("x&1", 0x1010101010101010L, "ynyy");
        checkAnswers("x|8", FINDER.apply(5, X, 8 * ONE), "nnyy");
        checkAnswers("x less 1 down to 0", ONE_LESS_BUT_0, "nynn");
        checkAnswers("x, but 15 for 14", 0xFFDCBA9876543210L, "nyyn");
        checkAnswers("x, but 0 for 15", 0x0EDCBA9876543210L, "nnyn");
        // Only the bit 3 of a value may depend on all bits of the input.
        checkAnswers("8 for 15, else 0", 0x8000000000000000L, "nyny");
        checkAnswers("4 for 15, else 0", 0x4000000000000000L, "nynn");
        checkAnswers("2 for 15, else 0", 0x2000000000000000L, "nynn");
        checkAnswers("1 for 15, else 0", 0x1000000000000000L, "nynn");
        checkAnswers("4 for 15 and 7, else 0", 0x4000000040000000L, "nnny");
        for (int what : new int[] {-1, 4, Integer.MIN_VALUE, Integer.MAX_VALUE}) {
            CHECK.isRefused("is(0, " + what + ")", FINDER, NO_INDEX, () -> FINDER.is(0, what));
        }
    }
}
