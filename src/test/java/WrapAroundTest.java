import java.math.BigInteger;

/** What wraps around: the values, by the remainder of 16, and the checksum, as a 64-bit integer. */
final class WrapAroundTest {
    private static final long X = Finders.X;
    private static final long ONE = Finders.ONE;
    private static final Check CHECK = new Check("WrapAroundTest");

    public static void main(String[] args) {
        checkEndsOfValues();
        checkInputByInput();
        checkRemainderInFormulas();
        checkRemainderInSearch();
        checkFunctionAsLong();
        checkDigestWraps();
        CHECK.finish();
    }

    /** The value that the operation makes of two values, at each input alike. */
    private static int made(TrickFinder finder, int op, int a, int b) {
        long h = finder.apply(op, a * ONE, b * ONE);
        CHECK.same("operation " + op + " of " + a + " and " + b + " at all inputs", h, (h & 15) * ONE);
        return (int) (h & 15);
    }

    private static void checkMade(int op, int a, int b, int due) {
        CHECK.same("operation " + op + " of " + a + " and " + b, made(new TrickFinder(), op, a, b), due);
    }

    // "All values are reckoned by the remainder of 16."
    private static void checkEndsOfValues() {
        int[][] due = {
            {0, 0, 7, 15}, {0, 15, 7, 0}, {0, 8, 7, 7}, {1, 0, 7, 0}, {1, 1, 7, 15}, {1, 15, 7, 1}, {1, 8, 7, 8},
            {2, 7, 7, 14}, {2, 8, 7, 0}, {2, 9, 7, 2}, {2, 15, 7, 14}, {3, 0, 7, 0}, {3, 1, 7, 0}, {3, 15, 7, 7},
            {4, 15, 15, 15}, {4, 8, 7, 0}, {5, 8, 7, 15}, {5, 0, 0, 0}, {6, 15, 15, 0}, {6, 15, 0, 15},
            {7, 15, 0, 15}, {7, 15, 1, 0}, {7, 1, 15, 0}, {7, 8, 8, 0}, {7, 8, 7, 15}, {7, 15, 15, 14},
            {8, 0, 0, 0}, {8, 0, 1, 15}, {8, 0, 15, 1}, {8, 15, 15, 0}, {8, 15, 0, 15}, {8, 7, 8, 15}, {8, 8, 7, 1},
            {9, 15, 1, 15}, {9, 3, 5, 15}, {9, 4, 4, 0}, {9, 8, 2, 0}, {9, 2, 8, 0}, {9, 15, 15, 1}, {9, 15, 0, 0}};
        for (int[] row : due) {
            checkMade(row[0], row[1], row[2], row[3]);
        }
    }

    // "they work input by input": what wraps around at one input does not reach the next one
    private static void checkInputByInput() {
        int[] values = {0, 1, 7, 8, 14, 15};
        for (int op = 0; op <= 9; op++) {
            for (int x = 0; x < 16; x++) {
                TrickFinder finder = new TrickFinder();
                int rest = (int) (finder.apply(op, 0, 0) & 15);
                for (int a : values) {
                    for (int b : values) {
                        long h = finder.apply(op, (long) a << 4 * x, (long) b << 4 * x);
                        long due = rest * ONE & ~(15L << 4 * x) | (long) made(new TrickFinder(), op, a, b) << 4 * x;
                        CHECK.same("operation " + op + " of " + a + " and " + b + " at " + x + " alone", h, due);
                    }
                }
            }
        }
    }

    private static void checkRead(String text, long due) {
        TrickFinder finder = new TrickFinder();
        CHECK.same("read() of " + text, Finders.readText(finder, text), -1);
        CHECK.same("result() of " + text, finder.result(), due);
    }

    private static void checkRemainderInFormulas() {
        checkRead("15+1", 0);
        checkRead("0-1", -1);
        checkRead("15*15", ONE);
        checkRead("<8", 0);
        checkRead("-0", 0);
        checkRead("~15", 0);
        checkRead("(15+15)-14", 0);
    }

    private static void checkRemainderInSearch() {
        TrickFinder finder = Finders.withOnly(7);
        finder.setConstant(1, false);
        finder.setConstant(8, true);
        finder.setPrice(10, 0);
        // Of x and 8 alone: x, 8, x+x, x+8 and 0, which is 8+8.
        CHECK.same("search(1)", finder.search(1), 5);
        CHECK.same("8+8 is 0", finder.entry(finder.find(0), 2), 1);
        CHECK.same("x+8 at 8 is 0", finder.find(0x76543210FEDCBA98L), 3);
    }

    // "(So each long is a function.)": the value of the input 15 stands in the bits of the sign
    private static void checkFunctionAsLong() {
        TrickFinder finder = new TrickFinder();
        CHECK.same("value of the least long at 15", finder.value(Long.MIN_VALUE, 15), 8);
        CHECK.same("value of the least long at 14", finder.value(Long.MIN_VALUE, 14), 0);
        CHECK.same("value of the greatest long at 15", finder.value(Long.MAX_VALUE, 15), 7);
        CHECK.same("value of the greatest long at 0", finder.value(Long.MAX_VALUE, 0), 15);
        CHECK.same("value of -1 at 15", finder.value(-1, 15), 15);
        CHECK.same("compose(least, x)", finder.compose(Long.MIN_VALUE, X), Long.MIN_VALUE);
        CHECK.same("compose(x, least)", finder.compose(X, Long.MIN_VALUE), Long.MIN_VALUE);
        CHECK.same("> of the least", finder.apply(3, Long.MIN_VALUE, 0), 0x4000000000000000L);
        CHECK.same("< of -1", finder.apply(2, -1, 0), 0xEEEEEEEEEEEEEEEEL);
        CHECK.same("> of -1", finder.apply(3, -1, 0), 0x7777777777777777L);
        CHECK.same("measure of -1: values that are the input", finder.measure(-1, 0), 1);
        CHECK.same("measure of -1: bits", finder.measure(-1, 2), 32);
    }

    /** The checksum without any wrap-around, from what the other calls tell. */
    private static BigInteger wholeDigest(TrickFinder finder, int[] settings, int paper, int tape) {
        BigInteger d = BigInteger.valueOf(367);
        for (int number : settings) {
            d = next(d, number);
        }
        d = next(d, finder.entries());
        for (int e = 0; e < finder.entries(); e++) {
            d = next(d, finder.function(e));
            for (int what = 0; what < 4; what++) {
                d = next(d, finder.entry(e, what));
            }
        }
        d = next(d, paper);
        for (int k = 0; k < paper; k++) {
            d = next(d, finder.byteAt(k));
        }
        return next(next(d, tape), finder.result());
    }

    private static BigInteger next(BigInteger d, long x) {
        return d.multiply(BigInteger.valueOf(31)).add(BigInteger.valueOf(x));
    }

    // "which wraps around as a 64-bit integer"
    private static void checkDigestWraps() {
        int[] first = {1, 1, 1, 1, 1, 1, 1, 1, 1, 1, 1, 1, 1, 1, 1, 1, 1, 1, 1, 0,
            1, 0, 1, 0, 0, 0, 0, 0, 0, 0, 0, 0, 0, 0, 0, 0, 0};
        TrickFinder finder = new TrickFinder();
        BigInteger whole = wholeDigest(finder, first, 0, 0);
        CHECK.isTrue("a new object's checksum is greater than a long:", whole.bitLength() > 64);
        CHECK.same("digest() of a new object", finder.digest(), whole.longValue());

        TrickFinder used = new TrickFinder();
        used.search(2);
        Finders.readText(used, "~x");
        Finders.feedText(used, " ".repeat(300));
        int paper = used.write(40);
        CHECK.same("digest() with entries", used.digest(), wholeDigest(used, first, paper, 300).longValue());

        TrickFinder last = Finders.withOnly();
        last.setConstant(1, false);
        for (int op = 0; op <= 10; op++) {
            last.setPrice(op, 5);
        }
        last.setConstant(15, true);
        Finders.readText(last, "15");
        int[] set = {5, 0, 5, 0, 5, 0, 5, 0, 5, 0, 5, 0, 5, 0, 5, 0, 5, 0, 5, 0,
            5, 0, 0, 0, 0, 0, 0, 0, 0, 0, 0, 0, 0, 0, 0, 0, 1};
        CHECK.same("search(5)", last.search(5), 2);
        CHECK.same("digest() with functions below 0", last.digest(), wholeDigest(last, set, 0, 0).longValue());
    }
}
