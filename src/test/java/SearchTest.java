/** Promises 11 to 20: search, entries, ofCost, function, entry, find, fit, near, parts, meanCost. */
final class SearchTest {
    private static final Class<?> NO_INDEX = IndexOutOfBoundsException.class;
    private static final Class<?> NO_ARGUMENT = IllegalArgumentException.class;
    private static final int[] WRONG_BUDGETS = {-1, 7, Integer.MIN_VALUE, Integer.MAX_VALUE};
    private static final long X = 0xFEDCBA9876543210L;
    private static final long ONE = 0x1111111111111111L;
    private static final Check CHECK = new Check("SearchTest");

    public static void main(String[] args) {
        checkFirstSearches();
        checkOrderOfConstants();
        checkPricesAndBudget();
        checkOrderOfArguments();
        checkOrderOfOperations();
        checkMultiplication();
        checkLimit();
        checkEntriesStay();
        checkOfCost();
        checkFunctionAndEntry();
        checkFind();
        checkFit();
        checkNear();
        checkParts();
        checkMeanCost();
        CHECK.finish();
    }

    private static void checkEntry(TrickFinder finder, int entry, long function, int... due) {
        CHECK.same("function(" + entry + ")", finder.function(entry), function);
        for (int what = 0; what < 4; what++) {
            CHECK.same("entry(" + entry + ", " + what + ")", finder.entry(entry, what), due[what]);
        }
    }

    private static void checkFirstSearches() {
        TrickFinder finder = new TrickFinder();
        CHECK.same("search(0)", finder.search(0), 1);
        checkEntry(finder, 0, X, 0, -1, -1, -1);
        CHECK.same("search(1)", finder.search(1), 7);
        CHECK.same("entries()", finder.entries(), 7);
        checkEntry(finder, 0, X, 0, -1, -1, -1);
        checkEntry(finder, 1, ONE, 1, -2, 1, -1);
        checkEntry(finder, 2, 0x0123456789ABCDEFL, 1, 0, 0, -1);
        checkEntry(finder, 3, 0x123456789ABCDEF0L, 1, 1, 0, -1);
        checkEntry(finder, 4, 0xECA86420ECA86420L, 1, 2, 0, -1);
        checkEntry(finder, 5, 0x7766554433221100L, 1, 3, 0, -1);
        checkEntry(finder, 6, 0, 1, 6, 0, 0);
        CHECK.same("search(2)", finder.search(2), 41);
        CHECK.same("search(0) again", finder.search(0), 1);
        CHECK.same("entries() are gone", finder.entries(), 1);
        CHECK.same("find(0) of what is gone", finder.find(0), -1);
        for (int budget : WRONG_BUDGETS) {
            CHECK.isRefused("search(" + budget + ")", finder, NO_ARGUMENT, () -> finder.search(budget));
        }
    }

    private static void checkOrderOfConstants() {
        TrickFinder finder = Finders.withOnly();
        finder.setConstant(9, true);
        finder.setConstant(0, true);
        finder.setConstant(15, true);
        finder.setPrice(10, 0);
        CHECK.same("search(0) with four constants", finder.search(0), 5);
        checkEntry(finder, 0, X, 0, -1, -1, -1);
        checkEntry(finder, 1, 0, 0, -2, 0, -1);
        checkEntry(finder, 2, ONE, 0, -2, 1, -1);
        checkEntry(finder, 3, 9 * ONE, 0, -2, 9, -1);
        checkEntry(finder, 4, -1, 0, -2, 15, -1);
        finder.setPrice(10, 3);
        CHECK.same("search(2) where constants cost 3", finder.search(2), 1);
        CHECK.same("search(3) where constants cost 3", finder.search(3), 5);
        CHECK.same("cost of a constant", finder.entry(4, 0), 3);
        finder.setPrice(10, 1);
        finder.allow(6, true);
        CHECK.same("constants are ahead of operations", finder.search(1), 5);
        CHECK.same("0 is a constant, not x^x", finder.entry(finder.find(0), 1), -2);
    }

    private static void checkPricesAndBudget() {
        TrickFinder finder = Finders.withOnly(0, 2);
        finder.setConstant(1, false);
        finder.setPrice(0, 3);
        finder.setPrice(2, 2);
        CHECK.same("search(1)", finder.search(1), 1);
        CHECK.same("search(2)", finder.search(2), 2);
        CHECK.same("search(3)", finder.search(3), 3);
        CHECK.same("search(4)", finder.search(4), 4);
        // ~<x costs 5, and so does <~x; ~~x is x, and <<<x costs 6.
        CHECK.same("search(5)", finder.search(5), 6);
        checkEntry(finder, 1, 0xECA86420ECA86420L, 2, 2, 0, -1);
        checkEntry(finder, 2, 0x0123456789ABCDEFL, 3, 0, 0, -1);
        checkEntry(finder, 3, 0xC840C840C840C840L, 4, 2, 1, -1);
        checkEntry(finder, 4, 0x13579BDF13579BDFL, 5, 0, 1, -1);
        checkEntry(finder, 5, 0x02468ACE02468ACEL, 5, 2, 2, -1);
        CHECK.same("search(6)", finder.search(6), 7);
        checkEntry(finder, 6, 0x8080808080808080L, 6, 2, 3, -1);
    }

    private static void checkOrderOfArguments() {
        TrickFinder finder = Finders.withOnly(8);
        CHECK.same("search(2) with - of two", finder.search(2), 6);
        checkEntry(finder, 1, ONE, 1, -2, 1, -1);
        checkEntry(finder, 2, 0, 1, 8, 0, 0);
        checkEntry(finder, 3, 0xEDCBA9876543210FL, 2, 8, 0, 1);
        checkEntry(finder, 4, 0x23456789ABCDEF01L, 2, 8, 1, 0);
        checkEntry(finder, 5, 0x123456789ABCDEF0L, 2, 8, 2, 0);
        CHECK.same("search(3) with - of two", finder.search(3), 11);
        // First x less what costs 2 (3 to 5), then what costs 1 (1, 2) less that, then 3 to 5 less x.
        checkEntry(finder, 6, 0xDB97531FDB97531FL, 3, 8, 0, 4);
        checkEntry(finder, 7, 0xECA86420ECA86420L, 3, 8, 0, 5);
        checkEntry(finder, 8, -1, 3, 8, 2, 1);
        checkEntry(finder, 9, 0x3579BDF13579BDF1L, 3, 8, 4, 0);
        checkEntry(finder, 10, 0x2468ACE02468ACE0L, 3, 8, 5, 0);
    }

    private static void checkOrderOfOperations() {
        TrickFinder finder = Finders.withOnly(7, 2);
        CHECK.same("search(1)", finder.search(1), 3);
        CHECK.same("<x is ahead of x+x", finder.entry(2, 1), 2);
        finder.setPrice(2, 2);
        CHECK.same("search(1)", finder.search(1), 3);
        CHECK.same("x+x is cheaper than <x", finder.entry(2, 1), 7);
        TrickFinder all = new TrickFinder();
        all.search(3);
        for (int e = 1; e < 120; e++) {
            boolean isCheaper = all.entry(e - 1, 0) < all.entry(e, 0);
            boolean isEarlier = all.entry(e - 1, 1) <= all.entry(e, 1);
            CHECK.isTrue("entry " + e + " stands in its place:", isCheaper || isEarlier);
        }
    }

    private static void checkMultiplication() {
        TrickFinder finder = Finders.withOnly(9);
        // The powers of x up to the seventh: the eighth would cost 7.
        CHECK.same("search(6) with *", finder.search(6), 8);
        checkEntry(finder, 2, 0x1490941014909410L, 1, 9, 0, 0);
        checkEntry(finder, 3, 0xF850389078D0B810L, 2, 9, 0, 2);
        checkEntry(finder, 4, 0x1010101010101010L, 3, 9, 0, 3);
        CHECK.same("* is not allowed at first", new TrickFinder().search(1), 7);
    }

    private static void checkLimit() {
        TrickFinder finder = new TrickFinder();
        CHECK.same("search(6)", finder.search(6), 2000);
        CHECK.same("entries()", finder.entries(), 2000);
        CHECK.same("ofCost(5)", finder.ofCost(5), 2000 - ofCosts(finder, 4));
        CHECK.same("ofCost(6)", finder.ofCost(6), 0);
        CHECK.isRefused("function(2000)", finder, NO_INDEX, () -> finder.function(2000));
        for (int first = 0; first < 2000; first += 200) {
            checkFound(first);
        }
        int whole = ofCosts(finder, 4);
        CHECK.isTrue("no cost but the last is cut:", whole < 2000);
        CHECK.same("search(4) behind it", finder.search(4), whole);
        CHECK.same("ofCost(5) behind it", finder.ofCost(5), 0);
    }

    private static void checkFound(int first) {
        TrickFinder finder = new TrickFinder();
        finder.search(6);
        for (int e = first; e < first + 200; e++) {
            CHECK.same("find(function(" + e + "))", finder.find(finder.function(e)), e);
        }
    }

    private static int ofCosts(TrickFinder finder, int most) {
        int sum = 0;
        for (int cost = 0; cost <= most; cost++) {
            sum += finder.ofCost(cost);
        }
        return sum;
    }

    private static void checkEntriesStay() {
        TrickFinder finder = new TrickFinder();
        finder.search(2);
        finder.allow(6, false);
        finder.setPrice(0, 5);
        finder.setPrice(10, 4);
        finder.setConstant(1, false);
        CHECK.same("entries() stay", finder.entries(), 41);
        checkEntry(finder, 1, ONE, 1, -2, 1, -1);
        checkEntry(finder, 2, 0x0123456789ABCDEFL, 1, 0, 0, -1);
        checkEntry(finder, 6, 0, 1, 6, 0, 0);
    }

    private static void checkOfCost() {
        TrickFinder finder = new TrickFinder();
        finder.search(2);
        int[] due = {1, 6, 34, 0, 0, 0, 0};
        for (int cost = 0; cost <= 6; cost++) {
            CHECK.same("ofCost(" + cost + ")", finder.ofCost(cost), due[cost]);
        }
        for (int cost : WRONG_BUDGETS) {
            CHECK.isRefused("ofCost(" + cost + ")", finder, NO_ARGUMENT, () -> finder.ofCost(cost));
        }
    }

    private static void checkFunctionAndEntry() {
        TrickFinder finder = new TrickFinder();
        CHECK.isRefused("function(0) without entries", finder, NO_INDEX, () -> finder.function(0));
        CHECK.isRefused("entry(0, 0) without entries", finder, NO_INDEX, () -> finder.entry(0, 0));
        CHECK.isRefused("parts(0) without entries", finder, NO_INDEX, () -> finder.parts(0));
        finder.search(1);
        for (int e : new int[] {-1, 7, 2000, Integer.MIN_VALUE, Integer.MAX_VALUE}) {
            CHECK.isRefused("function(" + e + ")", finder, NO_INDEX, () -> finder.function(e));
            CHECK.isRefused("entry(" + e + ", 0)", finder, NO_INDEX, () -> finder.entry(e, 0));
            CHECK.isRefused("parts(" + e + ")", finder, NO_INDEX, () -> finder.parts(e));
        }
        for (int what : new int[] {-1, 4, Integer.MIN_VALUE, Integer.MAX_VALUE}) {
            CHECK.isRefused("entry(0, " + what + ")", finder, NO_INDEX, () -> finder.entry(0, what));
        }
    }

    private static void checkFind() {
        TrickFinder finder = new TrickFinder();
        CHECK.same("find(x) without entries", finder.find(X), -1);
        finder.search(1);
        CHECK.same("find(x)", finder.find(X), 0);
        CHECK.same("find(0)", finder.find(0), 6);
        CHECK.same("find(1)", finder.find(ONE), 1);
        CHECK.same("find(x+1)", finder.find(0x0FEDCBA987654321L), -1);
        CHECK.same("find(-1)", finder.find(-1), -1);
    }

    private static void checkFit() {
        TrickFinder finder = new TrickFinder();
        CHECK.same("fit(x, 0) without entries", finder.fit(X, 0), -1);
        CHECK.same("fit(x, 65535) without entries", finder.fit(X, 65535), -1);
        finder.search(1);
        CHECK.same("fit of no inputs", finder.fit(0x7777, 0), 0);
        CHECK.same("fit of 0 for 0", finder.fit(0, 1), 0);
        CHECK.same("fit of 15 for 0", finder.fit(15, 1), 2);
        CHECK.same("fit of 1 for 0 and 1", finder.fit(0x11, 3), 1);
        CHECK.same("fit of 14 for 15", finder.fit(0xE000000000000000L, 32768), 4);
        CHECK.same("fit of 7 for 15", finder.fit(0x7000000000000000L, 32768), 5);
        CHECK.same("fit of 5 for 15", finder.fit(0x5000000000000000L, 32768), -1);
        CHECK.same("fit of all of 0", finder.fit(0, 65535), 6);
        CHECK.same("fit of all of x+1", finder.fit(0x0FEDCBA987654321L, 65535), -1);
        for (int inputs : new int[] {-1, 65536, Integer.MIN_VALUE, Integer.MAX_VALUE}) {
            CHECK.isRefused("fit(0, " + inputs + ")", finder, NO_ARGUMENT, () -> finder.fit(0, inputs));
        }
    }

    private static void checkNear() {
        TrickFinder finder = new TrickFinder();
        CHECK.same("near(x) without entries", finder.near(X), -1);
        finder.search(1);
        for (int e = 0; e < 7; e++) {
            CHECK.same("near(function(" + e + "))", finder.near(finder.function(e)), e);
            CHECK.same("near but for 3", finder.near(finder.function(e) ^ 0x4000), e);
        }
        // 7 at all inputs: x, ~x and -x have it once, but >x twice.
        CHECK.same("near(7 everywhere)", finder.near(7 * ONE), 5);
        // 1 at the inputs 0 to 3, else 0: 1 has it four times, 0 twelve times and >x three times.
        CHECK.same("near(1 and 0)", finder.near(0x1111), 6);
        // 1 at the inputs 0 to 7, else 0: both 1 and 0 have it eight times.
        CHECK.same("near, of several the first", finder.near(0x11111111), 1);
        finder.search(0);
        CHECK.same("near of a function with no value alike", finder.near(~X), 0);
    }

    private static void checkParts() {
        TrickFinder finder = new TrickFinder();
        finder.search(3);
        CHECK.same("parts of x", finder.parts(0), 1);
        CHECK.same("parts of 1", finder.parts(1), 1);
        CHECK.same("parts of ~x", finder.parts(2), 2);
        CHECK.same("parts of x^x", finder.parts(6), 2);
        CHECK.same("parts of x&1", finder.parts(finder.find(0x1010101010101010L)), 3);
        TrickFinder sums = Finders.withOnly(7);
        sums.search(3);
        CHECK.same("parts of x+(x+x)", sums.parts(sums.find(0xDA741EB852FC9630L)), 3);
        CHECK.same("parts of x+(x+(x+x))", sums.parts(sums.find(0xC840C840C840C840L)), 4);
        CHECK.same("parts of x+x", sums.parts(sums.find(0xECA86420ECA86420L)), 2);
        sums.setPrice(10, 0);
        sums.search(2);
        CHECK.same("parts of x+(x+1)", sums.parts(sums.find(0xFDB97531FDB97531L)), 4);
        sums.search(3);
        CHECK.same("parts of 1+(1+(1+1))", sums.parts(sums.find(4 * ONE)), 4);
    }

    private static void checkMeanCost() {
        TrickFinder finder = new TrickFinder();
        CHECK.sameDouble("meanCost() without entries", finder.meanCost(), 0.0);
        finder.search(0);
        CHECK.sameDouble("meanCost() of x", finder.meanCost(), 0.0);
        finder.search(1);
        CHECK.sameDouble("meanCost() of seven", finder.meanCost(), 6.0 / 7);
        finder.search(2);
        CHECK.sameDouble("meanCost() of 41", finder.meanCost(), 74.0 / 41);
        TrickFinder products = Finders.withOnly(9);
        products.search(6);
        CHECK.sameDouble("meanCost() up to 6", products.meanCost(), (1 + 1 + 2 + 3 + 4 + 5 + 6) / 8.0);
    }
}
