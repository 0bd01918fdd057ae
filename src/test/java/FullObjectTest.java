/** The full object: 2000 entries, 300 bytes on the tape, the longest paper, all switched on or off, 512 calls. */
final class FullObjectTest {
    private static final Class<?> NO_INDEX = IndexOutOfBoundsException.class;
    private static final Class<?> NO_STATE = IllegalStateException.class;
    private static final long X = Finders.X;
    private static final long ONE = Finders.ONE;
    private static final int XS = 0x78787878;
    private static final int BLANKS = 0x20202020;
    private static final Check CHECK = new Check("FullObjectTest");

    public static void main(String[] args) {
        checkLastEntry();
        checkFullRowIsSearched();
        checkMeanCostOfFullRow();
        checkFullTape();
        checkFormulaOf300Bytes();
        checkErrorsOnFullTape();
        checkLongestPaper();
        checkAllAndNoneAllowed();
        checkLastCall();
        checkRefusedCallsCountOnlyAsCalls();
        CHECK.finish();
    }

    // "It ends when there are 2000 entries.", "if there is no such entry": 1999 is the last one
    private static void checkLastEntry() {
        TrickFinder finder = Finders.full();
        CHECK.same("entries()", finder.entries(), 2000);
        long last = finder.function(1999);
        int op = finder.entry(1999, 1);
        long first = finder.function(finder.entry(1999, 2));
        long second = op < 4 ? 0 : finder.function(finder.entry(1999, 3));
        CHECK.same("the last function is made of its arguments", finder.apply(op, first, second), last);
        int parts = finder.parts(1999);
        CHECK.isTrue("parts(1999) is " + parts + ":", parts >= 2 && parts <= 13);
        CHECK.same("read() of the last entry before", finder.read(), -1);
        CHECK.same("read() of the last entry", Finders.readText(finder, Finders.writtenBy(finder, 1999)), -1);
        CHECK.same("result() of the last entry", finder.result(), last);
        for (int entry : new int[] {2000, 2001, 4095, 4096}) {
            CHECK.isRefused("function(" + entry + ")", finder, NO_INDEX, () -> finder.function(entry));
            CHECK.isRefused("entry(" + entry + ", 0)", finder, NO_INDEX, () -> finder.entry(entry, 0));
            CHECK.isRefused("parts(" + entry + ")", finder, NO_INDEX, () -> finder.parts(entry));
            CHECK.isRefused("write(" + entry + ")", finder, NO_INDEX, () -> finder.write(entry));
        }
    }

    // "Returns its entry", "the first entry that has the values", "the entry that differs for the fewest inputs":
    // the last one of 2000 is looked at too
    private static void checkFullRowIsSearched() {
        TrickFinder finder = Finders.full();
        long last = finder.function(1999);
        CHECK.same("find of the last one", finder.find(last), 1999);
        CHECK.same("fit of the last one at all inputs", finder.fit(last, 65535), 1999);
        CHECK.same("fit of the last one at none", finder.fit(last, 0), 0);
        CHECK.same("near of the last one", finder.near(last), 1999);
        long unknown = 0x8F3A5C7E11D2B496L;
        CHECK.same("find of none of 2000", finder.find(unknown), -1);
        CHECK.same("fit of none of 2000", finder.fit(unknown, 65535), -1);
        int near = finder.near(unknown);
        CHECK.isTrue("near of none of 2000 is " + near + ":", near >= 0 && near < 2000);
    }

    private static void checkMeanCostOfFullRow() {
        TrickFinder finder = Finders.full();
        long sum = 0;
        for (int cost = 0; cost <= 6; cost++) {
            sum += (long) cost * finder.ofCost(cost);
        }
        CHECK.isTrue("not all cost nothing:", sum > 0);
        CHECK.sameDouble("meanCost()", finder.meanCost(), sum / 2000.0);
    }

    // "if there would be more than 300": 300 bytes are taken, 301 are not
    private static void checkFullTape() {
        TrickFinder finder = new TrickFinder();
        for (int k = 1; k <= 14; k++) {
            CHECK.same("feed " + k, finder.feed(BLANKS, BLANKS, BLANKS, BLANKS, BLANKS), 20 * k);
        }
        CHECK.same("feed 15", finder.feed(BLANKS, BLANKS, BLANKS, BLANKS, 0x20202078), 300);
        CHECK.isRefused("feed 16", finder, NO_STATE, () -> finder.feed(XS, XS, XS, XS, XS));
        CHECK.same("trim(300)", finder.trim(300), 300);
        CHECK.isRefused("feed behind trim(300)", finder, NO_STATE, () -> finder.feed(XS, XS, XS, XS, XS));
        CHECK.same("read() of the 300 bytes, as they were", finder.read(), -1);
        CHECK.same("result()", finder.result(), X);
        CHECK.same("the tape is empty then", finder.feed(XS, XS, XS, XS, XS), 20);
        for (int over = 1; over <= 20; over++) {
            TrickFinder other = new TrickFinder();
            Finders.feedText(other, "x" + " ".repeat(279 + over));
            CHECK.isRefused("feed to " + (300 + over), other, NO_STATE, () -> other.feed(XS, XS, XS, XS, XS));
            CHECK.same("read() of the tape as it was", other.read(), -1);
        }
        TrickFinder just = new TrickFinder();
        Finders.feedText(just, "x" + " ".repeat(279));
        CHECK.same("feed to just 300", just.feed(BLANKS, BLANKS, BLANKS, BLANKS, BLANKS), 300);
        CHECK.same("read() of just 300", just.read(), -1);
    }

    private static void checkFormulaOf300Bytes() {
        TrickFinder finder = new TrickFinder();
        String blanks = " ".repeat(6);
        StringBuilder text = new StringBuilder();
        for (int k = 0; k < 20; k++) {
            text.append('(').append(blanks);
        }
        text.append("15");
        for (int k = 0; k < 20; k++) {
            text.append(blanks).append(')');
        }
        text.append(" ".repeat(300 - text.length() - 2)).append("&x");
        CHECK.same("length of the text", text.length(), 300);
        CHECK.same("read() of 300 bytes at the depth 20", Finders.readText(finder, text.toString()), -1);
        CHECK.same("result() of 300 bytes", finder.result(), X);
    }

    // "at the end of the tape (its length) if it ends too early", "behind the formula at the next byte"
    private static void checkErrorsOnFullTape() {
        TrickFinder finder = new TrickFinder();
        CHECK.same("300 blanks", Finders.readText(finder, " ".repeat(300)), 300);
        CHECK.same("a sign at the end", Finders.readText(finder, " ".repeat(298) + "x+"), 300);
        CHECK.same("a bracket at the end", Finders.readText(finder, " ".repeat(299) + "("), 300);
        CHECK.same("a wrong byte at the end", Finders.readText(finder, "x" + " ".repeat(298) + "x"), 299);
        CHECK.same("a wrong number at the end", Finders.readText(finder, " ".repeat(298) + "16"), 298);
        CHECK.same("a third digit at the end", Finders.readText(finder, " ".repeat(297) + "150"), 299);
        CHECK.same("a number at the end", Finders.readText(finder, " ".repeat(298) + "15"), -1);
        CHECK.same("its result", finder.result(), -1);
    }

    // At most six operations of two arguments, each but one in brackets, and seven constants of two digits.
    private static void checkLongestPaper() {
        TrickFinder finder = Finders.withOnly(7);
        finder.setConstant(1, false);
        finder.setConstant(10, true);
        finder.setPrice(10, 0);
        finder.search(6);
        String text = Finders.writtenBy(finder, finder.find(6 * ONE));
        String due = "10+(10+(10+(10+(10+(10+10)))))";
        CHECK.isTrue("the longest paper is " + text + ":", text.equals(due));
        CHECK.same("its last byte", finder.byteAt(29), ')');
        CHECK.isRefused("byteAt(30)", finder, NO_INDEX, () -> finder.byteAt(30));
        CHECK.same("read() of it", Finders.readText(finder, text), -1);
        CHECK.same("result() of it", finder.result(), finder.function(finder.find(6 * ONE)));
    }

    // "Returns how many operations are allowed then.", "how many constants": none and all of them
    private static void checkAllAndNoneAllowed() {
        TrickFinder finder = new TrickFinder();
        finder.allow(9, true);
        for (int op = 9; op >= 0; op--) {
            CHECK.same("allow(" + op + ", false)", finder.allow(op, false), op);
        }
        CHECK.same("allow(9, false) of none", finder.allow(9, false), 0);
        for (int op = 0; op <= 9; op++) {
            CHECK.same("allow(" + op + ", true)", finder.allow(op, true), op + 1);
        }
        CHECK.same("allow(0, true) of all", finder.allow(0, true), 10);
        CHECK.same("setConstant(1, false)", finder.setConstant(1, false), 0);
        CHECK.same("setConstant(0, false) of none", finder.setConstant(0, false), 0);
        for (int value = 0; value <= 15; value++) {
            CHECK.same("setConstant(" + value + ", true)", finder.setConstant(value, true), value + 1);
        }
        CHECK.same("setConstant(15, true) of all", finder.setConstant(15, true), 16);
        for (int value = 15; value >= 0; value--) {
            CHECK.same("setConstant(" + value + ", false)", finder.setConstant(value, false), value);
        }
    }

    // "An object is used for at most 512 calls": the 512th is answered as any other
    private static void checkLastCall() {
        TrickFinder finder = new TrickFinder();
        for (int call = 1; call < Finders.MOST_CALLS; call++) {
            int budget = call % 2 == 0 ? 6 : 1;
            CHECK.same("call " + call, finder.search(budget), budget == 6 ? 2000 : 7);
        }
        CHECK.same("call 512", finder.search(6), 2000);
        TrickFinder other = new TrickFinder();
        other.search(1);
        for (int call = 2; call < Finders.MOST_CALLS; call++) {
            CHECK.same("call " + call, other.feed(XS, XS, XS, XS, XS), 20);
            call++;
            if (call < Finders.MOST_CALLS) {
                CHECK.same("call " + call, other.read(), 1);
            }
        }
        CHECK.same("call 512 of the other", other.entries(), 7);
    }

    // A call that throws is a call as well, and leaves the last ones as they are.
    private static void checkRefusedCallsCountOnlyAsCalls() {
        TrickFinder finder = new TrickFinder();
        int refused = 0;
        for (int call = 1; call < Finders.MOST_CALLS; call++) {
            try {
                finder.search(7);
            } catch (IllegalArgumentException e) {
                refused++;
            }
        }
        CHECK.same("refused calls", refused, 511);
        CHECK.same("call 512", finder.search(1), 7);
    }
}
