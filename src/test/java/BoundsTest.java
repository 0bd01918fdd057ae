import java.util.function.Supplier;

/**
 * Each row of the document that says what a call throws: the last value that is taken and the first that is
 * refused, at both ends; the exception that is named first; and that a refused call changes nothing.
 */
final class BoundsTest {
    private static final Class<?> NO_INDEX = IndexOutOfBoundsException.class;
    private static final Class<?> NO_ARGUMENT = IllegalArgumentException.class;
    private static final Class<?> NO_STATE = IllegalStateException.class;
    private static final long X = Finders.X;
    private static final Check CHECK = new Check("BoundsTest");

    private interface Call {
        void run(TrickFinder finder, int argument);
    }

    private final String state;
    private final Supplier<TrickFinder> maker;
    private final int entries;
    private final int paper;
    private final int tape;
    private final long[] unchanged;

    private BoundsTest(String state, Supplier<TrickFinder> maker, int entries, int paper, int tape) {
        this.state = state;
        this.maker = maker;
        this.entries = entries;
        this.paper = paper;
        this.tape = tape;
        unchanged = toldBy(maker.get());
    }

    public static void main(String[] args) {
        new BoundsTest("new", TrickFinder::new, 0, 0, 0).checkAll();
        new BoundsTest("in use", Finders::inUse, 41, 2, 5).checkAll();
        TrickFinder full = Finders.full();
        new BoundsTest("full", Finders::full, 2000, full.write(1999), 300).checkAll();
        CHECK.finish();
    }

    private void checkAll() {
        checkSettings();
        checkPrices();
        checkFunctions();
        checkInverse();
        checkSearch();
        checkEntries();
        checkPaper();
        checkFeed();
        checkTrim();
        checkFirstNamed();
    }

    /** All that an object holds: what the digest does not tell, its later answers do. */
    private static long[] toldBy(TrickFinder finder) {
        return new long[] {finder.digest(), finder.entries(), finder.read(), finder.result(), finder.digest(),
            finder.search(2), finder.digest()};
    }

    private static String thrownBy(TrickFinder finder, Call call, int argument) {
        try {
            call.run(finder, argument);
        } catch (RuntimeException e) {
            return e.getClass().getName();
        }
        return "nothing";
    }

    private void takes(String name, Call call, int argument) {
        String thrown = thrownBy(maker.get(), call, argument);
        CHECK.isTrue(state + ": " + name + " with " + argument + " throws " + thrown + ":", thrown.equals("nothing"));
    }

    private void refuses(String name, Class<?> due, Call call, int argument) {
        TrickFinder finder = maker.get();
        String thrown = thrownBy(finder, call, argument);
        String told = state + ": " + name + " with " + argument;
        CHECK.isTrue(told + " throws " + thrown + ":", thrown.equals(due.getName()));
        long[] left = toldBy(finder);
        for (int k = 0; k < left.length; k++) {
            CHECK.same(told + " changes nothing, " + k, left[k], unchanged[k]);
        }
    }

    /** Takes least to most (none, if most is less), and refuses the next ones and the farthest ones. */
    private void bounds(String name, Class<?> due, int least, int most, Call call) {
        if (least <= most) {
            takes(name, call, least);
            takes(name, call, most);
        }
        for (int argument : new int[] {least - 1, most + 1, Integer.MIN_VALUE, Integer.MAX_VALUE}) {
            refuses(name, due, call, argument);
        }
    }

    // "if op is not 0 to 9", "if value is not 0 to 15"
    private void checkSettings() {
        bounds("allow(op, true)", NO_INDEX, 0, 9, (finder, op) -> finder.allow(op, true));
        bounds("allow(op, false)", NO_INDEX, 0, 9, (finder, op) -> finder.allow(op, false));
        bounds("setConstant(value, true)", NO_ARGUMENT, 0, 15, (finder, value) -> finder.setConstant(value, true));
        bounds("setConstant(value, false)", NO_ARGUMENT, 0, 15, (finder, value) -> finder.setConstant(value, false));
    }

    // "if op is not 0 to 10", "if price is not 1 to 5, for constants 0 to 5"
    private void checkPrices() {
        bounds("setPrice(op, 1)", NO_INDEX, 0, 10, (finder, op) -> finder.setPrice(op, 1));
        for (int op = 0; op <= 9; op++) {
            int priced = op;
            bounds("setPrice(" + op + ", price)", NO_ARGUMENT, 1, 5, (finder, price) -> finder.setPrice(priced, price));
        }
        bounds("setPrice(10, price)", NO_ARGUMENT, 0, 5, (finder, price) -> finder.setPrice(10, price));
    }

    // "if x is not 0 to 15", "if op is not 0 to 9", "if what is not 0 to 4", "if what is not 0 to 3"
    private void checkFunctions() {
        bounds("value(f, x)", NO_ARGUMENT, 0, 15, (finder, x) -> finder.value(X, x));
        bounds("apply(op, f, g)", NO_INDEX, 0, 9, (finder, op) -> finder.apply(op, X, X));
        bounds("measure(f, what)", NO_INDEX, 0, 4, (finder, what) -> finder.measure(X, what));
        bounds("is(f, what)", NO_INDEX, 0, 3, (finder, what) -> finder.is(X, what));
    }

    // "if two inputs of f have the same value": any two of them, each with the value of the other
    private void checkInverse() {
        takes("inverse of x", (finder, a) -> finder.inverse(X), 0);
        for (int a = 0; a < 16; a++) {
            for (int b = 0; b < 16; b++) {
                long f = X & ~(15L << 4 * a) | (long) b << 4 * a;
                if (a != b) {
                    refuses("inverse of x, but " + b + " for " + a, NO_STATE, (finder, n) -> finder.inverse(f), a);
                }
            }
        }
    }

    // "if budget is not 0 to 6", "if cost is not 0 to 6", "if inputs is not 0 to 65535"
    private void checkSearch() {
        bounds("search(budget)", NO_ARGUMENT, 0, 6, (finder, budget) -> finder.search(budget));
        bounds("ofCost(cost)", NO_ARGUMENT, 0, 6, (finder, cost) -> finder.ofCost(cost));
        bounds("fit(x, inputs)", NO_ARGUMENT, 0, 65535, (finder, inputs) -> finder.fit(X, inputs));
    }

    // "if there is no such entry", "or what is not 0 to 3"
    private void checkEntries() {
        bounds("function(entry)", NO_INDEX, 0, entries - 1, (finder, entry) -> finder.function(entry));
        bounds("parts(entry)", NO_INDEX, 0, entries - 1, (finder, entry) -> finder.parts(entry));
        bounds("write(entry)", NO_INDEX, 0, entries - 1, (finder, entry) -> finder.write(entry));
        for (int what = 0; what <= 3; what++) {
            int asked = what;
            bounds("entry(entry, " + what + ")", NO_INDEX, 0, entries - 1,
                    (finder, entry) -> finder.entry(entry, asked));
        }
        for (int entry : new int[] {0, 1, entries - 1}) {
            int mostWhat = entry < entries && entry >= 0 ? 3 : -1;
            bounds("entry(" + entry + ", what)", NO_INDEX, 0, mostWhat, (finder, what) -> finder.entry(entry, what));
        }
        refuses("entry(entry, 4)", NO_INDEX, (finder, entry) -> finder.entry(entry, 4), entries);
    }

    // "if there is no such place"
    private void checkPaper() {
        bounds("byteAt(k)", NO_INDEX, 0, paper - 1, (finder, k) -> finder.byteAt(k));
    }

    // "if there would be more than 300"
    private void checkFeed() {
        Call feed = (finder, n) -> finder.feed(n, n, n, n, n);
        if (tape + 20 <= 300) {
            takes("feed", feed, 0x78787878);
            return;
        }
        refuses("feed", NO_STATE, feed, 0x78787878);
        refuses("feed", NO_STATE, feed, 0);
        refuses("feed", NO_STATE, feed, -1);
        for (int n = 281; n <= 300; n++) {
            TrickFinder finder = maker.get();
            finder.trim(n);
            CHECK.isRefused("feed behind " + n + " bytes", finder, NO_STATE, () -> finder.feed(0, 0, 0, 0, 0));
            CHECK.same("the tape is as it was", finder.trim(n), n);
        }
        TrickFinder finder = maker.get();
        finder.trim(280);
        CHECK.same("feed behind 280 bytes", finder.feed(0, 0, 0, 0, 0), 300);
    }

    // "if n is not 0 to the number of bytes of the tape"
    private void checkTrim() {
        bounds("trim(n)", NO_ARGUMENT, 0, tape, (finder, n) -> finder.trim(n));
    }

    // "If several exceptions apply, the one that is named first is thrown."
    private void checkFirstNamed() {
        for (int price : new int[] {-1, 0, 6, Integer.MIN_VALUE, Integer.MAX_VALUE}) {
            refuses("setPrice(-1, price)", NO_INDEX, (finder, n) -> finder.setPrice(-1, n), price);
            refuses("setPrice(11, price)", NO_INDEX, (finder, n) -> finder.setPrice(11, n), price);
        }
    }
}
