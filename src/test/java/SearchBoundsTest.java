import java.util.HashSet;
import java.util.Set;

/** The ends of a search: the prices and budgets that just reach, what is left out, and where it stops at 2000. */
final class SearchBoundsTest {
    private static final long X = Finders.X;
    private static final long ONE = Finders.ONE;
    private static final Check CHECK = new Check("SearchBoundsTest");

    public static void main(String[] args) {
        checkBudgetZero();
        checkConstantPrices();
        checkOperationPrices();
        checkFirstOfBothCosts();
        checkLeftOut();
        checkBudgetSix();
        checkCutAmongConstants();
        checkCutAtOneArgument();
        checkCutAtTwoArguments();
        checkOneLessThanFull();
        checkOfCostAtTheEnds();
        checkEntriesStay();
        checkEntriesAreGone();
        checkFewestParts();
        checkMostParts();
        checkEntriesAhead();
        checkFitOfOneInput();
        checkNearAtTheEnds();
        CHECK.finish();
    }

    private static String row(TrickFinder finder, int entry) {
        return finder.entry(entry, 0) + " " + finder.entry(entry, 1) + " " + finder.entry(entry, 2) + " "
            + finder.entry(entry, 3);
    }

    private static void checkRow(TrickFinder finder, int entry, String due) {
        String got = row(finder, entry);
        CHECK.isTrue("entry " + entry + " is " + got + ", due is " + due + ":", got.equals(due));
    }

    // "if c is 0, x": it alone at the budget 0, for each operation costs at least 1
    private static void checkBudgetZero() {
        TrickFinder finder = new TrickFinder();
        finder.allow(9, true);
        CHECK.same("search(0)", finder.search(0), 1);
        checkRow(finder, 0, "0 -1 -1 -1");
        CHECK.same("function(0)", finder.function(0), X);
        finder.setPrice(10, 0);
        CHECK.same("search(0) where constants cost 0", finder.search(0), 2);
        checkRow(finder, 0, "0 -1 -1 -1");
        checkRow(finder, 1, "0 -2 1 -1");
    }

    // "if c is the price of constants, the allowed constants": not one cost ahead of it
    private static void checkConstantPrices() {
        for (int price = 0; price <= 5; price++) {
            TrickFinder finder = Finders.withOnly();
            finder.setConstant(0, true);
            finder.setConstant(15, true);
            finder.setPrice(10, price);
            if (price > 0) {
                CHECK.same("search(" + (price - 1) + ") where constants cost one more", finder.search(price - 1), 1);
            }
            CHECK.same("search(" + price + ") where constants cost this", finder.search(price), 4);
            checkRow(finder, 1, price + " -2 0 -1");
            checkRow(finder, 2, price + " -2 1 -1");
            checkRow(finder, 3, price + " -2 15 -1");
            CHECK.same("search(6) finds no constant twice", finder.search(6), 4);
        }
    }

    // "with the price p (if c is at least p)"
    private static void checkOperationPrices() {
        int[] oneMade = {1, 1, 1, 1, 0, 0, 1, 1, 1, 1};
        for (int op = 0; op <= 9; op++) {
            for (int price = 1; price <= 5; price++) {
                TrickFinder finder = Finders.withOnly(op);
                finder.setConstant(1, false);
                finder.setPrice(op, price);
                String told = "search where the operation " + op + " costs " + price;
                CHECK.same(told + ", one less", finder.search(price - 1), 1);
                CHECK.same(told + ", just so", finder.search(price), 1 + oneMade[op]);
                if (oneMade[op] == 1) {
                    checkRow(finder, 1, price + " " + op + " 0 " + (op < 4 ? "-1" : "0"));
                    CHECK.same(told + ": of x", finder.function(1), finder.apply(op, X, X));
                }
            }
        }
    }

    // "for each cost a from 0 to c - p", both ends of it; "the first of both is the first argument"
    private static void checkFirstOfBothCosts() {
        TrickFinder finder = Finders.withOnly(8);
        finder.setPrice(8, 5);
        CHECK.same("search(5) where - costs 5", finder.search(5), 3);
        checkRow(finder, 2, "5 8 0 0");
        CHECK.same("search(6) where - costs 5", finder.search(6), 5);
        checkRow(finder, 3, "6 8 0 1");
        checkRow(finder, 4, "6 8 1 0");
        CHECK.same("x-1", finder.function(3), 0xEDCBA9876543210FL);
        CHECK.same("1-x", finder.function(4), 0x23456789ABCDEF01L);
    }

    // "a function that is there already is left out"
    private static void checkLeftOut() {
        TrickFinder finder = Finders.withOnly(0, 6);
        finder.setConstant(0, true);
        finder.setConstant(15, true);
        finder.setPrice(10, 2);
        finder.search(1);
        checkRow(finder, finder.find(0), "1 6 0 0");
        finder.search(2);
        checkRow(finder, finder.find(0), "1 6 0 0");
        checkRow(finder, finder.find(-1), "2 -2 15 -1");
        CHECK.same("~~x is x", finder.find(X), 0);
        finder.setPrice(10, 1);
        finder.search(2);
        checkRow(finder, finder.find(0), "1 -2 0 -1");
        Set<Long> functions = new HashSet<>();
        for (int first = 0; first < 2000; first += 400) {
            TrickFinder full = Finders.full();
            for (int e = first; e < first + 400; e++) {
                functions.add(full.function(e));
            }
        }
        CHECK.same("different functions of a full row", functions.size(), 2000);
    }

    // "A search has a budget, 0 to 6": at 6 it still makes what costs 6, and nothing that costs 7
    private static void checkBudgetSix() {
        TrickFinder finder = Finders.withOnly(2);
        finder.setConstant(1, false);
        finder.setPrice(2, 3);
        CHECK.same("search(5) where < costs 3", finder.search(5), 2);
        CHECK.same("search(6) where < costs 3", finder.search(6), 3);
        checkRow(finder, 2, "6 2 1 -1");
        TrickFinder powers = Finders.withOnly(9);
        CHECK.same("search(5) of powers", powers.search(5), 7);
        CHECK.same("search(6) of powers", powers.search(6), 8);
        checkRow(powers, 7, "6 9 0 6");
    }

    /** Settings with all constants, and with only these operations: each with its price behind it. */
    private record Setup(int constantPrice, int... opsAndPrices) {
        TrickFinder finder() {
            TrickFinder finder = Finders.withOnly();
            for (int value = 0; value < 16; value++) {
                finder.setConstant(value, true);
            }
            finder.setPrice(10, constantPrice);
            for (int k = 0; k < opsAndPrices.length; k += 2) {
                finder.allow(opsAndPrices[k], true);
                finder.setPrice(opsAndPrices[k], opsAndPrices[k + 1]);
            }
            return finder;
        }

        PlainFinder plain() {
            PlainFinder plain = new PlainFinder();
            for (int value = 0; value < 16; value++) {
                plain.setConstant(value, true);
            }
            plain.setPrice(10, constantPrice);
            for (int op = 0; op < 10; op++) {
                plain.allow(op, false);
            }
            for (int k = 0; k < opsAndPrices.length; k += 2) {
                plain.allow(opsAndPrices[k], true);
                plain.setPrice(opsAndPrices[k], opsAndPrices[k + 1]);
            }
            return plain;
        }
    }

    /** The search ends at 2000, with an entry of this operation; all are those of the plain finder. */
    private static TrickFinder checkCut(Setup setup, int budget, int lastOp) {
        TrickFinder finder = setup.finder();
        PlainFinder plain = setup.plain();
        CHECK.same("a search that is cut", finder.search(budget), 2000);
        CHECK.same("entries()", finder.entries(), 2000);
        CHECK.same("the last operation", finder.entry(1999, 1), lastOp);
        CHECK.same("find of the last one", finder.find(finder.function(1999)), 1999);
        CHECK.isRefused("function(2000)", finder, IndexOutOfBoundsException.class, () -> finder.function(2000));
        plain.search(budget);
        CHECK.same("the plain finder's row", finder.digest(), plain.digest());
        int sum = 0;
        for (int cost = 0; cost <= 6; cost++) {
            CHECK.same("ofCost(" + cost + ")", finder.ofCost(cost), plain.ofCost(cost));
            sum += finder.ofCost(cost);
        }
        CHECK.same("all costs together", sum, 2000);
        return finder;
    }

    // "It ends when there are 2000 entries.": among the constants, of which 11 is the last one then
    private static void checkCutAmongConstants() {
        Setup setup = new Setup(5, 0, 1, 1, 1, 2, 1, 3, 1, 4, 1, 5, 1, 6, 3, 8, 1, 9, 1);
        CHECK.same("search(4) ahead of the constants", setup.finder().search(4), 1995);
        TrickFinder finder = checkCut(setup, 5, -2);
        CHECK.same("ofCost(5)", finder.ofCost(5), 5);
        checkRow(finder, 1999, "5 -2 11 -1");
        int leftOut = 0;
        for (int value = 12; value < 16; value++) {
            leftOut += finder.find(value * ONE) < 0 ? 1 : 0;
        }
        CHECK.isTrue("a constant behind 11 is left out:", leftOut > 0);
        CHECK.same("search(6) is cut there too", finder.search(6), 2000);
        checkRow(finder, 1999, "5 -2 11 -1");
        CHECK.same("ofCost(6)", finder.ofCost(6), 0);
    }

    // "It ends when there are 2000 entries.": while an operation with one argument goes through them
    private static void checkCutAtOneArgument() {
        checkCut(new Setup(0, 0, 1, 9, 1), 6, 0);
        checkCut(new Setup(0, 1, 1, 0, 1, 4, 1), 6, 1);
        checkCut(new Setup(0, 2, 1, 4, 1, 6, 1), 6, 2);
        checkCut(new Setup(0, 3, 1, 7, 1), 6, 3);
    }

    // "It ends when there are 2000 entries.": while an operation with two arguments goes through them
    private static void checkCutAtTwoArguments() {
        checkCut(new Setup(0, 4, 1, 8, 1), 6, 4);
        checkCut(new Setup(0, 5, 1, 8, 2), 6, 5);
        checkCut(new Setup(1, 6, 1, 8, 1), 6, 6);
        checkCut(new Setup(0, 7, 1, 9, 2), 6, 7);
        checkCut(new Setup(0, 8, 1, 9, 2), 6, 8);
        checkCut(new Setup(0, 6, 1, 9, 1), 3, 9);
    }

    // "It ends when there are 2000 entries.": at 1999 it goes on, and takes one more of the next cost
    private static void checkOneLessThanFull() {
        Setup setup = new Setup(1, 0, 1, 4, 2, 6, 1, 7, 1);
        TrickFinder finder = setup.finder();
        CHECK.same("search(5)", finder.search(5), 1999);
        CHECK.same("ofCost(6) of it", finder.ofCost(6), 0);
        CHECK.isRefused("function(1999)", finder, IndexOutOfBoundsException.class, () -> finder.function(1999));
        CHECK.same("ofCost(6) of 2000", checkCut(setup, 6, 0).ofCost(6), 1);
        TrickFinder other = new Setup(0, 1, 1, 3, 2, 5, 1, 7, 2).finder();
        CHECK.same("search(4) of the other", other.search(4), 1999);
        CHECK.same("search(5) of the other", other.search(5), 2000);
        CHECK.same("ofCost(5) of the other", other.ofCost(5), 1);
    }

    // "how many entries have it": none beyond the budget, none ahead of the first
    private static void checkOfCostAtTheEnds() {
        TrickFinder finder = new TrickFinder();
        int before = 0;
        for (int budget = 0; budget <= 4; budget++) {
            int all = finder.search(budget);
            for (int cost = budget + 1; cost <= 6; cost++) {
                CHECK.same("ofCost(" + cost + ") of budget " + budget, finder.ofCost(cost), 0);
            }
            CHECK.same("ofCost(" + budget + ")", finder.ofCost(budget), all - before);
            before = all;
        }
        TrickFinder gap = Finders.withOnly(9);
        gap.setPrice(9, 5);
        gap.setConstant(1, false);
        CHECK.same("search(6) with nothing between", gap.search(6), 2);
        int[] due = {1, 0, 0, 0, 0, 1, 0};
        for (int cost = 0; cost <= 6; cost++) {
            CHECK.same("ofCost(" + cost + ") with nothing between", gap.ofCost(cost), due[cost]);
        }
        checkRow(gap, 1, "5 9 0 0");
    }

    // "Entries stay as they are till the next search, whatever is set.": a refused search is none
    private static void checkEntriesStay() {
        TrickFinder finder = new TrickFinder();
        finder.search(2);
        StringBuilder before = new StringBuilder();
        for (int e = 0; e < 41; e++) {
            before.append(row(finder, e)).append(' ').append(finder.function(e)).append(';');
        }
        for (int op = 0; op <= 9; op++) {
            finder.allow(op, false);
            finder.setPrice(op, 5);
        }
        finder.setPrice(10, 0);
        for (int value = 0; value < 16; value++) {
            finder.setConstant(value, true);
        }
        CHECK.isRefused("search(7)", finder, IllegalArgumentException.class, () -> finder.search(7));
        CHECK.isRefused("search(-1)", finder, IllegalArgumentException.class, () -> finder.search(-1));
        Finders.readText(finder, "x");
        StringBuilder after = new StringBuilder();
        for (int e = 0; e < 41 && finder.entries() == 41; e++) {
            after.append(row(finder, e)).append(' ').append(finder.function(e)).append(';');
        }
        CHECK.isTrue("the entries stay:", after.toString().equals(before.toString()));
        CHECK.same("the next search", finder.search(2), 17);
    }

    // "the entries that were there are gone"
    private static void checkEntriesAreGone() {
        TrickFinder finder = Finders.full();
        long last = finder.function(1999);
        CHECK.same("search(0)", finder.search(0), 17);
        CHECK.same("find of the last one", finder.find(last), -1);
        CHECK.same("find of 15", finder.find(-1), 16);
        CHECK.same("ofCost(1)", finder.ofCost(1), 0);
        CHECK.isRefused("function(17)", finder, IndexOutOfBoundsException.class, () -> finder.function(17));
        CHECK.same("search(6) again", finder.search(6), 2000);
        CHECK.same("find of the last one again", finder.find(last), 1999);
    }

    // "how many different entries it is made of, with itself": x and a constant are made of themselves alone
    private static void checkFewestParts() {
        TrickFinder finder = new Setup(0, 6, 1).finder();
        finder.search(1);
        for (int entry = 0; entry <= 16; entry++) {
            CHECK.same("parts(" + entry + ") of x and the constants", finder.parts(entry), 1);
        }
        TrickFinder other = Finders.withOnly(0, 6);
        other.search(1);
        CHECK.same("parts of 1", other.parts(1), 1);
        CHECK.same("parts of ~x", other.parts(2), 2);
        CHECK.same("parts of x^x: x but once", other.parts(3), 2);
    }

    private static void checkMostParts() {
        Setup setup = new Setup(0, 4, 1, 9, 1);
        int[] off = {0, 1, 2, 3, 5, 6, 10, 11, 13, 14};
        PlainFinder plain = setup.plain();
        for (int value : off) {
            plain.setConstant(value, false);
        }
        CHECK.same("search(6) of the plain finder", plain.search(6), 2000);
        TrickFinder finder = null;
        for (int k = 0; k < 2000; k++) {
            if (k % 400 == 0) {
                finder = setup.finder();
                for (int value : off) {
                    finder.setConstant(value, false);
                }
                finder.search(6);
            }
            CHECK.same("parts(" + k + ")", finder.parts(k), plain.parts(k));
        }
        String text = Finders.writtenBy(finder, 1703);
        CHECK.isTrue("the entry 1703 is " + text + ":", text.equals("8&(7*((x*12)&(15*(x&9))))"));
        CHECK.same("parts(1703)", finder.parts(1703), 12);
    }

    // "x, a constant, or an operation with one or two entries ahead of it"
    private static void checkEntriesAhead() {
        for (int entry = 17; entry < 2000; entry += 20) {
            TrickFinder full = Finders.full();
            int op = full.entry(entry, 1);
            int first = full.entry(entry, 2);
            int second = full.entry(entry, 3);
            CHECK.isTrue("the first argument of " + entry + " is ahead:", first >= 0 && first < entry);
            CHECK.isTrue("the second argument of " + entry + " is ahead:", op < 4 ? second == -1 : second < entry);
            int costs = full.entry(first, 0) + (op < 4 ? 0 : full.entry(second, 0));
            CHECK.same("the cost of " + entry, full.entry(entry, 0), costs + 1);
            long g = op < 4 ? 0 : full.function(second);
            CHECK.same("the function of " + entry, full.function(entry), full.apply(op, full.function(first), g));
        }
    }

    // "a set of inputs (as the sum of the powers 2^x of the inputs x)": each input alone, and all but one
    private static void checkFitOfOneInput() {
        TrickFinder finder = Finders.withOnly(0);
        finder.setConstant(1, false);
        finder.search(1);
        for (int x = 0; x < 16; x++) {
            long wrongAtX = X ^ 15L << 4 * x;
            CHECK.same("fit of x, but not at " + x, finder.fit(wrongAtX, 65535 - (1 << x)), 0);
            CHECK.same("fit of ~x at " + x + " alone", finder.fit(wrongAtX, 1 << x), 1);
            CHECK.same("fit of both", finder.fit(wrongAtX, 65535), -1);
            CHECK.same("fit of none", finder.fit(wrongAtX, 0), 0);
        }
    }

    // "differs from f for the fewest inputs, of several the first one": from none to all sixteen
    private static void checkNearAtTheEnds() {
        TrickFinder finder = Finders.withOnly(0);
        finder.setConstant(1, false);
        finder.search(1);
        CHECK.same("near(x)", finder.near(X), 0);
        CHECK.same("near(~x)", finder.near(~X), 1);
        CHECK.same("near of what is x eight times and ~x eight times", finder.near(X ^ 0xFFFFFFFFL), 0);
        CHECK.same("near of what is x seven times", finder.near(X ^ 0xFFFFFFFFFL), 1);
        CHECK.same("near of what is neither", finder.near(X ^ ONE), 0);
        for (int x = 0; x < 16; x++) {
            CHECK.same("near of ~x at " + x + ", else neither", finder.near(X ^ ONE ^ 14L << 4 * x), 1);
            CHECK.same("near of x at " + x + ", else neither", finder.near(~X ^ ONE ^ 14L << 4 * x), 0);
        }
    }
}
