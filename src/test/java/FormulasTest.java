/** Promises 21 to 27: write, byteAt, feed, trim, read, result, digest. */
final class FormulasTest {
    private static final Class<?> NO_INDEX = IndexOutOfBoundsException.class;
    private static final Class<?> NO_ARGUMENT = IllegalArgumentException.class;
    private static final Class<?> NO_STATE = IllegalStateException.class;
    private static final long X = 0xFEDCBA9876543210L;
    private static final long ONE = 0x1111111111111111L;
    private static final int BLANKS = 0x20202020;
    private static final Check CHECK = new Check("FormulasTest");

    public static void main(String[] args) {
        checkWrite();
        checkBrackets();
        checkTwoDigits();
        checkLongest();
        checkWrittenIsReadAgain();
        checkByteAt();
        checkFeed();
        checkTrim();
        checkReadOfFunctions();
        checkBlanks();
        checkNumbers();
        checkErrors();
        checkDepth();
        checkBytesOutsideTheGrammar();
        checkLongTape();
        checkResult();
        checkDigest();
        CHECK.finish();
    }

    private static void checkWritten(TrickFinder finder, int entry, String due) {
        String got = Finders.writtenBy(finder, entry);
        CHECK.isTrue("write(" + entry + ") wrote " + got + ", due is " + due + ":", got.equals(due));
        CHECK.isRefused("byteAt(" + due.length() + ")", finder, NO_INDEX, () -> finder.byteAt(due.length()));
    }

    private static void checkWrite() {
        TrickFinder finder = new TrickFinder();
        CHECK.isRefused("write(0) without entries", finder, NO_INDEX, () -> finder.write(0));
        finder.search(3);
        String[] due = {"x", "1", "~x", "-x", "<x", ">x", "x^x"};
        for (int e = 0; e < due.length; e++) {
            checkWritten(finder, e, due[e]);
        }
        checkWritten(finder, finder.find(0x1010101010101010L), "x&1");
        checkWritten(finder, finder.find(0x0FEDCBA987654321L), "-~x");
        finder.search(1);
        CHECK.same("a search leaves the paper", finder.byteAt(1), '~');
        for (int e : new int[] {-1, 7, 2000, Integer.MIN_VALUE, Integer.MAX_VALUE}) {
            CHECK.isRefused("write(" + e + ")", finder, NO_INDEX, () -> finder.write(e));
        }
        CHECK.same("the paper is as before", finder.byteAt(2), 'x');
    }

    private static void checkBrackets() {
        for (int op = 4; op < 9; op++) {
            TrickFinder finder = Finders.withOnly(op);
            finder.search(2);
            int entry = finder.find(finder.apply(op, X, ONE));
            checkWritten(finder, entry, "x" + "&|^+-".charAt(op - 4) + "1");
        }
        TrickFinder products = Finders.withOnly(9);
        products.search(2);
        checkWritten(products, 2, "x*x");
        checkWritten(products, 3, "x*(x*x)");
        TrickFinder sums = Finders.withOnly(7);
        sums.search(4);
        checkWritten(sums, sums.find(0xFDB97531FDB97531L), "x+(x+1)");
        checkWritten(sums, sums.find(0xC840C840C840C840L), "x+(x+(x+x))");
        TrickFinder differences = Finders.withOnly(8);
        differences.search(3);
        checkWritten(differences, 9, "(1-x)-x");
        checkWritten(differences, 8, "(x-x)-1");
        TrickFinder mixed = Finders.withOnly(0, 7);
        mixed.search(3);
        checkWritten(mixed, mixed.find(0xF0123456789ABCDEL), "~(x+1)");
        checkWritten(mixed, mixed.find(0x123456789ABCDEF0L), "1+~x");
    }

    private static void checkTwoDigits() {
        TrickFinder finder = Finders.withOnly(7);
        finder.setConstant(1, false);
        finder.setConstant(0, true);
        finder.setConstant(9, true);
        finder.setConstant(10, true);
        finder.setConstant(15, true);
        finder.setPrice(10, 0);
        finder.search(1);
        checkWritten(finder, 1, "0");
        checkWritten(finder, 2, "9");
        checkWritten(finder, 3, "10");
        checkWritten(finder, 4, "15");
        checkWritten(finder, finder.find(0x9876543210FEDCBAL), "x+10");
        finder.setConstant(0, false);
        finder.setConstant(9, false);
        finder.search(2);
        checkWritten(finder, finder.find(0x876543210FEDCBA9L), "x+(10+15)");
    }

    private static void checkLongest() {
        TrickFinder sums = Finders.withOnly(7);
        sums.setConstant(1, false);
        sums.search(6);
        checkWritten(sums, 6, "x+(x+(x+(x+(x+(x+x)))))");
        sums.setConstant(10, true);
        sums.setPrice(10, 0);
        sums.search(6);
        checkWritten(sums, sums.find(6 * ONE), "10+(10+(10+(10+(10+(10+10)))))");
        TrickFinder shifts = Finders.withOnly(0, 3);
        shifts.search(6);
        long f = X;
        for (int k = 0; k < 3; k++) {
            f = shifts.apply(3, shifts.apply(0, f, 0), 0);
        }
        checkWritten(shifts, shifts.find(f), ">~>~>~x");
    }

    private static void checkWrittenIsReadAgain() {
        for (int e = 0; e < 2000; e += 7) {
            TrickFinder finder = Finders.full();
            finder.read();
            CHECK.same("read() of entry " + e, Finders.readText(finder, Finders.writtenBy(finder, e)), -1);
            CHECK.same("result() of entry " + e, finder.result(), finder.function(e));
        }
    }

    private static void checkByteAt() {
        TrickFinder finder = new TrickFinder();
        finder.search(1);
        finder.write(6);
        CHECK.same("byteAt(0)", finder.byteAt(0), 120);
        CHECK.same("byteAt(1)", finder.byteAt(1), 94);
        CHECK.same("byteAt(2)", finder.byteAt(2), 120);
        for (int k : new int[] {-1, 3, 30, Integer.MIN_VALUE, Integer.MAX_VALUE}) {
            CHECK.isRefused("byteAt(" + k + ")", finder, NO_INDEX, () -> finder.byteAt(k));
        }
        finder.write(0);
        CHECK.isRefused("byteAt(1) of a shorter paper", finder, NO_INDEX, () -> finder.byteAt(1));
    }

    private static void checkFeed() {
        TrickFinder finder = new TrickFinder();
        for (int k = 1; k <= 15; k++) {
            CHECK.same("feed " + k, finder.feed(BLANKS, BLANKS, BLANKS, BLANKS, BLANKS), 20 * k);
        }
        CHECK.isRefused("feed 16", finder, NO_STATE, () -> finder.feed(0, 0, 0, 0, 0));
        CHECK.same("trim(281)", finder.trim(281), 281);
        CHECK.isRefused("feed to 301", finder, NO_STATE, () -> finder.feed(0, 0, 0, 0, 0));
        finder.trim(280);
        CHECK.same("feed to 300", finder.feed(BLANKS, BLANKS, BLANKS, BLANKS, 0x20202078), 300);
        CHECK.same("read() of 299 blanks and an x", finder.read(), -1);
        CHECK.same("result()", finder.result(), X);
        // The bytes come in the order of the numbers, the highest byte first.
        finder.feed(0x28782D31, 0x292B2834, 0x2D32297D, 0x20202020, 0x20202020);
        CHECK.same("read() of (x-1)+(4-2)}", finder.read(), 11);
        finder.feed(0x2020283E, 0x20207820, 0x20292020, 0x2D202031, 0x20203520);
        CHECK.same("read() of (> x) - 1  5", finder.read(), 18);
        finder.feed(0x20207E78, 0x20202020, 0x20202020, 0x20202020, 0x20202B31);
        CHECK.same("read() of ~x + 1", finder.read(), -1);
        CHECK.same("result() of ~x + 1", finder.result(), 0x123456789ABCDEF0L);
    }

    private static void checkTrim() {
        TrickFinder finder = new TrickFinder();
        Finders.feedText(finder, "x+1+x");
        CHECK.isRefused("trim(6)", finder, NO_ARGUMENT, () -> finder.trim(6));
        CHECK.isRefused("trim(-1)", finder, NO_ARGUMENT, () -> finder.trim(-1));
        CHECK.isRefused("trim(least)", finder, NO_ARGUMENT, () -> finder.trim(Integer.MIN_VALUE));
        CHECK.isRefused("trim(most)", finder, NO_ARGUMENT, () -> finder.trim(Integer.MAX_VALUE));
        CHECK.same("trim(5)", finder.trim(5), 5);
        CHECK.same("trim(3)", finder.trim(3), 3);
        CHECK.isRefused("trim(4) then", finder, NO_ARGUMENT, () -> finder.trim(4));
        CHECK.same("read() of x+1", finder.read(), -1);
        CHECK.same("the tape is empty then", finder.feed(0, 0, 0, 0, 0), 20);
        CHECK.same("trim(0)", finder.trim(0), 0);
        CHECK.same("feed behind trim(0)", finder.feed(0, 0, 0, 0, 0), 20);
    }

    private static void checkRead(String text, long function) {
        TrickFinder finder = new TrickFinder();
        CHECK.same("read() of " + text, Finders.readText(finder, text), -1);
        CHECK.same("result() of " + text, finder.result(), function);
        CHECK.same("the tape behind " + text, finder.feed(0, 0, 0, 0, 0), 20);
    }

    private static void checkError(String text, int place) {
        TrickFinder finder = new TrickFinder();
        Finders.readText(finder, "x");
        CHECK.same("read() of " + text, Finders.readText(finder, text), place);
        CHECK.same("result() behind " + text, finder.result(), X);
        CHECK.same("the tape behind " + text, finder.feed(0, 0, 0, 0, 0), 20);
    }

    private static void checkReadOfFunctions() {
        checkRead("x", X);
        checkRead("~x", 0x0123456789ABCDEFL);
        checkRead("-x", 0x123456789ABCDEF0L);
        checkRead("<x", 0xECA86420ECA86420L);
        checkRead(">x", 0x7766554433221100L);
        checkRead("x&1", 0x1010101010101010L);
        checkRead("x|1", 0xFFDDBB9977553311L);
        checkRead("x^1", 0xEFCDAB8967452301L);
        checkRead("x+1", 0x0FEDCBA987654321L);
        checkRead("x-1", 0xEDCBA9876543210FL);
        checkRead("1-x", 0x23456789ABCDEF01L);
        checkRead("x*x", 0x1490941014909410L);
        checkRead("--x", X);
        checkRead("x--x", 0xECA86420ECA86420L);
        checkRead("-x-x", 0x2468ACE02468ACE0L);
        checkRead("-(x-x)", 0);
        checkRead("~x+1", 0x123456789ABCDEF0L);
        checkRead("~(x+1)", 0xF0123456789ABCDEL);
        checkRead("<~x", 0x02468ACE02468ACEL);
        checkRead("~<x", 0x13579BDF13579BDFL);
        checkRead("((x))", X);
        checkRead("(x+1)-(1+x)", 0);
        checkRead("3-(2-1)", 2 * ONE);
        checkRead("(3-2)-1", 0);
    }

    private static void checkBlanks() {
        checkRead("  x  ", X);
        checkRead(" ( x + 1 ) - ( 1 + x ) ", 0);
        checkRead("~ < x", 0x13579BDF13579BDFL);
        checkRead(" 1 + 1", 2 * ONE);
        checkError("1 1", 2);
        checkError("1 1+x", 2);
        checkError("x+1 5", 4);
        checkError("x\t", 1);
        checkError("\nx", 0);
    }

    private static void checkNumbers() {
        for (int number = 0; number < 16; number++) {
            checkRead("" + number, number * ONE);
            checkRead(number + "+x", new TrickFinder().apply(7, X, number * ONE));
        }
        checkRead("00", 0);
        checkRead("07", 7 * ONE);
        checkRead("15", -1);
        checkError("16", 0);
        checkError("99", 0);
        checkError("20", 0);
        checkError("x+16", 2);
        checkError(" ( 16", 3);
        checkError("160", 0);
        checkError("100", 2);
        checkError("007", 2);
        checkError("015", 2);
        checkError("x+123", 4);
        checkError("1x", 1);
        checkError("x16", 1);
        checkError("1 6", 2);
    }

    private static void checkErrors() {
        TrickFinder finder = new TrickFinder();
        CHECK.same("read() of nothing", finder.read(), 0);
        checkError(" ", 1);
        checkError("    ", 4);
        checkError("x+", 2);
        checkError("x+  ", 4);
        checkError("(x", 2);
        checkError("(x ", 3);
        checkError("(", 1);
        checkError("()", 1);
        checkError(")", 0);
        checkError("x)", 1);
        checkError("(x))", 3);
        checkError("~", 1);
        checkError("~)", 1);
        checkError("+x", 0);
        checkError("&", 0);
        checkError("x~", 1);
        checkError("x<1", 1);
        checkError("x>1", 1);
        checkError("xx", 1);
        checkError("x x", 2);
        checkError("x(x)", 1);
        checkError("(x)x", 3);
        checkError("x+1+2", 3);
        checkError("x+1)", 3);
        checkError("(x+1-1)", 4);
        checkError("x+1~", 3);
        checkError("x+*", 2);
        checkError("x + + x", 4);
        checkError("X", 0);
        checkError("y", 0);
        checkError("x/1", 1);
        checkError("x&&1", 2);
        checkError("(x+1)-(1+y)", 9);
        checkError("x+1 ) 99", 4);
    }

    private static void checkDepth() {
        checkRead("~".repeat(20) + "x", X);
        checkError("~".repeat(21) + "x", 20);
        checkError("~".repeat(20), 20);
        checkError("~".repeat(25), 20);
        checkRead("(".repeat(20) + "x" + ")".repeat(20), X);
        checkError("(".repeat(21) + "x" + ")".repeat(21), 20);
        checkError("(".repeat(20) + "x" + ")".repeat(19), 40);
        checkRead("-(".repeat(10) + "x" + ")".repeat(10), X);
        checkError("-(".repeat(10) + "~x" + ")".repeat(10), 20);
        checkError("-(".repeat(10) + " (x" + ")".repeat(11), 21);
        checkError("~" + "-(".repeat(10) + "x" + ")".repeat(10), 20);
        // The depth is less again behind a ")" and behind what follows a sign.
        checkRead("~".repeat(20) + "x+" + "~".repeat(20) + "1", 0x0FEDCBA987654321L);
        checkRead("(".repeat(19) + "~x" + ")".repeat(19) + "+(~x)", 0x02468ACE02468ACEL);
        checkRead("(".repeat(19) + "~x&(x)" + ")".repeat(19), 0);
        checkError("(".repeat(19) + "~x&(~x)" + ")".repeat(19), 23);
        checkError("(".repeat(20) + "x+(1)" + ")".repeat(20), 22);
        checkRead("(".repeat(20) + "x+1" + ")".repeat(20), 0x0FEDCBA987654321L);
    }

    private static void checkBytesOutsideTheGrammar() {
        for (int b = 0; b < 256; b++) {
            boolean beginsFormula = "x0123456789~-<>( ".indexOf(b) >= 0;
            checkError("" + (char) b + "}", beginsFormula ? 1 : 0);
            boolean goesOn = "&|^+-* ".indexOf(b) >= 0;
            checkError("x" + (char) b + "}", goesOn ? 2 : 1);
        }
    }

    private static void checkLongTape() {
        checkRead(" ".repeat(299) + "x", X);
        checkError(" ".repeat(300), 300);
        checkError("x" + " ".repeat(298) + "+", 300);
        checkError("x" + " ".repeat(298) + "1", 299);
        checkError(" ".repeat(298) + "16", 298);
        checkRead(" ".repeat(298) + "15", -1);
    }

    private static void checkResult() {
        TrickFinder finder = new TrickFinder();
        CHECK.same("result() at first", finder.result(), 0);
        Finders.feedText(finder, "x+");
        finder.read();
        CHECK.same("result() behind an error alone", finder.result(), 0);
        for (int op = 0; op < 10; op++) {
            finder.allow(op, false);
        }
        finder.setConstant(1, false);
        Finders.feedText(finder, "x+1");
        finder.read();
        CHECK.same("result() with what is not allowed", finder.result(), 0x0FEDCBA987654321L);
        Finders.feedText(finder, "x*7");
        CHECK.same("result() ahead of read()", finder.result(), 0x0FEDCBA987654321L);
        finder.read();
        CHECK.same("result() of x*7", finder.result(), finder.apply(9, X, 7 * ONE));
        Finders.feedText(finder, "x*7 7");
        finder.read();
        CHECK.same("result() behind an error", finder.result(), finder.apply(9, X, 7 * ONE));
        CHECK.same("read() of the empty tape", finder.read(), 0);
    }

    private static long summed(long start, long... numbers) {
        long d = start;
        for (long number : numbers) {
            d = d * 31 + number;
        }
        return d;
    }

    private static void checkDigest() {
        TrickFinder finder = new TrickFinder();
        long d = summed(367, 1, 1, 1, 1, 1, 1, 1, 1, 1, 1, 1, 1, 1, 1, 1, 1, 1, 1, 1, 0);
        d = summed(d, 1, 0, 1, 0, 0, 0, 0, 0, 0, 0, 0, 0, 0, 0, 0, 0, 0);
        CHECK.same("digest() of a new object", finder.digest(), summed(d, 0, 0, 0, 0));
        CHECK.same("digest() again", finder.digest(), summed(d, 0, 0, 0, 0));
        finder.allow(9, true);
        finder.allow(2, false);
        finder.setPrice(0, 3);
        finder.setPrice(10, 0);
        finder.setConstant(13, true);
        Finders.feedText(finder, "3");
        finder.read();
        Finders.feedText(finder, "x+");
        finder.search(0);
        finder.write(2);
        d = summed(367, 3, 1, 1, 1, 1, 0, 1, 1, 1, 1, 1, 1, 1, 1, 1, 1, 1, 1, 1, 1);
        d = summed(d, 0, 0, 1, 0, 0, 0, 0, 0, 0, 0, 0, 0, 0, 0, 1, 0, 0);
        d = summed(d, 3, X, 0, -1, -1, -1, ONE, 0, -2, 1, -1, 13 * ONE, 0, -2, 13, -1);
        CHECK.same("digest()", finder.digest(), summed(d, 2, '1', '3', 2, 3 * ONE));
        finder.trim(0);
        CHECK.same("digest() behind trim(0)", finder.digest(), summed(d, 2, '1', '3', 0, 3 * ONE));
        finder.setPrice(0, 1);
        finder.search(1);
        d = summed(367, 1, 1, 1, 1, 1, 0, 1, 1, 1, 1, 1, 1, 1, 1, 1, 1, 1, 1, 1, 1);
        d = summed(d, 0, 0, 1, 0, 0, 0, 0, 0, 0, 0, 0, 0, 0, 0, 1, 0, 0, finder.entries());
        for (int e = 0; e < finder.entries(); e++) {
            d = summed(d, finder.function(e), finder.entry(e, 0), finder.entry(e, 1));
            d = summed(d, finder.entry(e, 2), finder.entry(e, 3));
        }
        CHECK.same("digest() behind search(1)", finder.digest(), summed(d, 2, '1', '3', 0, 3 * ONE));
    }
}
