/** The empty object: what each call answers without entries, with an empty tape and an empty paper. */
final class EmptyObjectTest {
    private static final Class<?> NO_INDEX = IndexOutOfBoundsException.class;
    private static final Class<?> NO_ARGUMENT = IllegalArgumentException.class;
    private static final long X = Finders.X;
    private static final Check CHECK = new Check("EmptyObjectTest");

    public static void main(String[] args) {
        checkWithoutEntries(new TrickFinder());
        checkNoEntry();
        checkFirstSettings();
        checkEmptyPaper();
        checkEmptyTape();
        checkNoResult();
        checkSearchWithoutAnything();
        CHECK.finish();
    }

    // "Creates a finder without entries", and "-1 if it has none", "-1 if there is none",
    // "-1 if there are no entries", "0 if there are none"
    private static void checkWithoutEntries(TrickFinder finder) {
        CHECK.same("entries()", finder.entries(), 0);
        for (int cost = 0; cost <= 6; cost++) {
            CHECK.same("ofCost(" + cost + ")", finder.ofCost(cost), 0);
        }
        for (long f : new long[] {X, 0, -1, Long.MIN_VALUE, Long.MAX_VALUE}) {
            CHECK.same("find(" + f + ")", finder.find(f), -1);
            CHECK.same("near(" + f + ")", finder.near(f), -1);
            CHECK.same("fit(" + f + ", 0)", finder.fit(f, 0), -1);
            CHECK.same("fit(" + f + ", 65535)", finder.fit(f, 65535), -1);
        }
        CHECK.sameDouble("meanCost()", finder.meanCost(), 0.0);
    }

    // "if there is no such entry": not even the entry 0
    private static void checkNoEntry() {
        TrickFinder finder = new TrickFinder();
        CHECK.isRefused("function(0)", finder, NO_INDEX, () -> finder.function(0));
        CHECK.isRefused("parts(0)", finder, NO_INDEX, () -> finder.parts(0));
        CHECK.isRefused("write(0)", finder, NO_INDEX, () -> finder.write(0));
        for (int what = -1; what <= 4; what++) {
            int asked = what;
            CHECK.isRefused("entry(0, " + what + ")", finder, NO_INDEX, () -> finder.entry(0, asked));
        }
    }

    // "(1, at first)", "(at first all but 9 are)", "(at first 1 alone is)", "(1, at first)"
    private static void checkFirstSettings() {
        for (int op = 0; op <= 10; op++) {
            CHECK.same("the price of " + op, new TrickFinder().setPrice(op, 5), 1);
        }
        for (int op = 0; op <= 9; op++) {
            CHECK.same("allow(" + op + ", true)", new TrickFinder().allow(op, true), op == 9 ? 10 : 9);
            CHECK.same("allow(" + op + ", false)", new TrickFinder().allow(op, false), op == 9 ? 9 : 8);
        }
        for (int value = 0; value <= 15; value++) {
            CHECK.same("setConstant(" + value + ", true)", new TrickFinder().setConstant(value, true),
                    value == 1 ? 1 : 2);
            CHECK.same("setConstant(" + value + ", false)", new TrickFinder().setConstant(value, false),
                    value == 1 ? 0 : 1);
        }
    }

    // "and an empty paper"
    private static void checkEmptyPaper() {
        TrickFinder finder = new TrickFinder();
        CHECK.isRefused("byteAt(0)", finder, NO_INDEX, () -> finder.byteAt(0));
        finder.search(6);
        CHECK.isRefused("byteAt(0) behind a search", finder, NO_INDEX, () -> finder.byteAt(0));
    }

    // "with an empty tape": its end is its length, 0
    private static void checkEmptyTape() {
        TrickFinder finder = new TrickFinder();
        CHECK.isRefused("trim(1)", finder, NO_ARGUMENT, () -> finder.trim(1));
        CHECK.same("trim(0)", finder.trim(0), 0);
        CHECK.same("read()", finder.read(), 0);
        CHECK.same("read() again", finder.read(), 0);
        CHECK.same("the first feed", finder.feed(0, 0, 0, 0, 0), 20);
        CHECK.same("trim(0) of 20 bytes", finder.trim(0), 0);
        CHECK.isRefused("trim(1) of none again", finder, NO_ARGUMENT, () -> finder.trim(1));
        CHECK.same("read() behind trim(0)", finder.read(), 0);
    }

    // "0 if there was none": neither without a read() nor behind one with an error
    private static void checkNoResult() {
        TrickFinder finder = new TrickFinder();
        CHECK.same("result()", finder.result(), 0);
        finder.read();
        CHECK.same("result() behind read() of nothing", finder.result(), 0);
        for (String text : new String[] {" ", "x+", "16", "(x", "x 1", "y", "~".repeat(21) + "x"}) {
            Finders.readText(finder, text);
            CHECK.same("result() behind read() of " + text, finder.result(), 0);
        }
    }

    // Without operations and constants there is x alone, whatever the budget is.
    private static void checkSearchWithoutAnything() {
        TrickFinder finder = Finders.withOnly();
        CHECK.same("no constant is allowed", finder.setConstant(1, false), 0);
        for (int budget = 0; budget <= 6; budget++) {
            CHECK.same("search(" + budget + ")", finder.search(budget), 1);
            CHECK.same("ofCost(0)", finder.ofCost(0), 1);
            CHECK.same("function(0)", finder.function(0), X);
            CHECK.sameDouble("meanCost()", finder.meanCost(), 0.0);
        }
    }
}
