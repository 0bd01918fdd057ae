/** The ends of the grammar: numbers, blanks, the depth of at most 20, and the place of each kind of error. */
final class GrammarBoundsTest {
    private static final long X = Finders.X;
    private static final long ONE = Finders.ONE;
    private static final String ONE_SIGNS = "~-<>";
    private static final String TWO_SIGNS = "&|^+-*";
    private static final Check CHECK = new Check("GrammarBoundsTest");

    public static void main(String[] args) {
        checkNumbers();
        checkLongestNumberIsRead();
        checkBlanks();
        checkOtherBytesAreNoBlanks();
        checkNoBlankWithinANumber();
        checkDepthOfBrackets();
        checkDepthOfSigns();
        checkDepthOfBoth();
        checkDepthOfSecondPart();
        checkDepthIsLessAgain();
        checkWrongBytes();
        checkTooEarlyEnds();
        checkBehindTheFormula();
        checkFirstErrorIsTold();
        checkTapeIsEmptyThen();
        checkResultStays();
        checkNotAllowedIsRead();
        checkAllShortTexts();
        CHECK.finish();
    }

    private static void reads(String text, long function) {
        TrickFinder finder = new TrickFinder();
        CHECK.same("read() of " + text, Finders.readText(finder, text), -1);
        CHECK.same("result() of " + text, finder.result(), function);
    }

    private static void errs(String text, int place) {
        TrickFinder finder = new TrickFinder();
        Finders.readText(finder, "7");
        CHECK.same("read() of " + text, Finders.readText(finder, text), place);
        CHECK.same("result() behind " + text, finder.result(), 7 * ONE);
    }

    // "A number has one or two digits (..), and is 0 to 15", "at the first digit of a number greater than 15"
    private static void checkNumbers() {
        for (int number = 0; number <= 99; number++) {
            String two = number < 10 ? "0" + number : "" + number;
            if (number <= 15) {
                reads(two, number * ONE);
                reads("" + number, number * ONE);
                reads("(" + two + ")", number * ONE);
                reads("x-" + two, new TrickFinder().apply(8, X, number * ONE));
            } else {
                errs(two, 0);
                errs("(" + two + ")", 1);
                errs("x-" + two, 2);
                errs("  ~ " + two + " +", 4);
            }
        }
    }

    // "(the longest possible one is read)": a third digit is behind the number
    private static void checkLongestNumberIsRead() {
        errs("000", 2);
        errs("001", 2);
        errs("015", 2);
        errs("100", 2);
        errs("155", 2);
        errs("160", 0);
        errs("0000", 2);
        errs("x+015", 4);
        errs("(150)", 3);
        errs("15x", 2);
        errs("1x", 1);
        reads("15-01", 14 * ONE);
    }

    // "Blanks (32) can stand anywhere": at each place between the parts of a formula
    private static void checkBlanks() {
        String[] parts = {"~", "(", "x", "+", "<", "15", ")", "-", "(", "03", "*", ">", "(", "x", ")", ")"};
        long due = 0;
        for (int blanks = 0; blanks <= 12; blanks += 4) {
            for (int place = 0; place <= parts.length; place++) {
                StringBuilder text = new StringBuilder();
                for (int k = 0; k <= parts.length; k++) {
                    text.append(k == place ? " ".repeat(blanks) : "").append(k < parts.length ? parts[k] : "");
                }
                TrickFinder finder = new TrickFinder();
                CHECK.same("read() of " + text, Finders.readText(finder, text.toString()), -1);
                due = blanks == 0 ? finder.result() : due;
                CHECK.same("result() of " + text, finder.result(), due);
            }
        }
        TrickFinder finder = new TrickFinder();
        long first = finder.apply(0, finder.apply(7, X, finder.apply(2, 15 * ONE, 0)), 0);
        long second = finder.apply(9, 3 * ONE, finder.apply(3, X, 0));
        CHECK.same("what it is", due, finder.apply(8, first, second));
    }

    // "Blanks (32)": no other byte is one
    private static void checkOtherBytesAreNoBlanks() {
        for (int b = 0; b < 256; b++) {
            char sign = (char) b;
            if (b != ' ') {
                errs("x" + sign + "}", TWO_SIGNS.indexOf(b) >= 0 ? 2 : 1);
                errs("x+" + sign + "}", "x0123456789(~-<>".indexOf(b) >= 0 ? 3 : 2);
                errs("(x" + sign + "}", (TWO_SIGNS + ")").indexOf(b) >= 0 ? 3 : 2);
            }
        }
    }

    // "but within a number": behind a blank a digit is another number
    private static void checkNoBlankWithinANumber() {
        errs("1 5", 2);
        errs("1  5", 3);
        errs("0 1", 2);
        errs("x+1 5", 4);
        errs("(1 5)", 3);
        errs("~1 1", 3);
        errs("1 6", 2);
        errs("1" + " ".repeat(8) + "5", 9);
    }

    // "between a "(" and its ")"", "at the "(" .. behind which the depth would be 21"
    private static void checkDepthOfBrackets() {
        reads("(".repeat(20) + "x" + ")".repeat(20), X);
        reads("(".repeat(20) + "15" + ")".repeat(20), -1);
        reads("(".repeat(20) + "x+1" + ")".repeat(20), 0x0FEDCBA987654321L);
        errs("(".repeat(21) + "x" + ")".repeat(21), 20);
        errs("(".repeat(21), 20);
        errs("(".repeat(20), 20);
        errs("(".repeat(22), 20);
        errs("(".repeat(300), 20);
        errs("(".repeat(20) + "   (", 23);
        errs(" (".repeat(21) + "x", 41);
    }

    // "and for what follows a sign of one argument", "at the .. sign behind which the depth would be 21"
    private static void checkDepthOfSigns() {
        for (int k = 0; k < 4; k++) {
            String sign = "" + ONE_SIGNS.charAt(k);
            reads(sign.repeat(20) + "x", applied(k, 20));
            errs(sign.repeat(21) + "x", 20);
            errs(sign.repeat(20), 20);
            errs(sign.repeat(300), 20);
            errs("(".repeat(20) + sign + "x" + ")".repeat(20), 20);
            reads("(".repeat(19) + sign + "x" + ")".repeat(19), applied(k, 1));
            errs(sign.repeat(20) + "(x)", 20);
            reads(sign.repeat(19) + "(x)", applied(k, 19));
        }
    }

    private static long applied(int op, int times) {
        long f = X;
        for (int k = 0; k < times; k++) {
            f = new TrickFinder().apply(op, f, 0);
        }
        return f;
    }

    private static void checkDepthOfBoth() {
        for (int brackets = 0; brackets <= 20; brackets++) {
            int signs = 20 - brackets;
            String closed = ")".repeat(brackets);
            long due = signs % 2 == 0 ? X : ~X;
            reads("(".repeat(brackets) + "~".repeat(signs) + "x" + closed, due);
            reads("~".repeat(signs) + "(".repeat(brackets) + "x" + closed, due);
            errs("(".repeat(brackets) + "~".repeat(signs) + "~x" + closed, 20);
            errs("(".repeat(brackets) + "~".repeat(signs) + "(x)" + closed, 20);
            errs("~".repeat(signs) + "(".repeat(brackets) + "-x" + closed, 20);
            errs("~".repeat(signs) + "(".repeat(brackets) + "(x)" + closed, 20);
        }
    }

    // A sign of two arguments adds nothing to the depth; its second part stands at the depth of the first.
    private static void checkDepthOfSecondPart() {
        reads("x+" + "~".repeat(20) + "1", 0x0FEDCBA987654321L);
        errs("x+" + "~".repeat(21) + "1", 22);
        reads("x&" + "(".repeat(20) + "15" + ")".repeat(20), X);
        errs("x&" + "(".repeat(21) + "15" + ")".repeat(21), 22);
        reads("(".repeat(19) + "x&~0" + ")".repeat(19), X);
        errs("(".repeat(20) + "x&~0" + ")".repeat(20), 22);
        reads("(".repeat(19) + "x&(15)" + ")".repeat(19), X);
        errs("(".repeat(20) + "x&(15)" + ")".repeat(20), 22);
        reads("(x&".repeat(20) + "15" + ")".repeat(20), X);
        errs("(x&".repeat(20) + "(15)" + ")".repeat(20), 60);
        errs("(x-".repeat(20) + "-1" + ")".repeat(20), 60);
    }

    private static void checkDepthIsLessAgain() {
        reads("~".repeat(20) + "x-" + "-".repeat(20) + "x", 0);
        reads("(".repeat(20) + "x" + ")".repeat(20) + "^" + "(".repeat(20) + "x" + ")".repeat(20), 0);
        errs("(".repeat(20) + "x" + ")".repeat(20) + "^" + "(".repeat(21) + "x", 62);
        reads("(".repeat(19) + "(x)^(x)" + ")".repeat(19), 0);
        reads("(".repeat(19) + "~x^~x" + ")".repeat(19), 0);
        errs("(".repeat(19) + "~x^~~x" + ")".repeat(19), 23);
        reads("(".repeat(20) + "x" + ")".repeat(10) + "+~x" + ")".repeat(10), -1);
        reads("(".repeat(20) + "x" + ")".repeat(10) + "+" + "~".repeat(9) + "x" + ")".repeat(10), -1);
        errs("(".repeat(20) + "x" + ")".repeat(10) + "+" + "~".repeat(11) + "x" + ")".repeat(10), 42);
    }

    // "at the first byte with which the bytes so far are not the beginning of a formula"
    private static void checkWrongBytes() {
        errs("y", 0);
        errs(")", 0);
        errs("+", 0);
        errs("&x", 0);
        errs(" *x", 1);
        errs("()", 1);
        errs("(+", 1);
        errs("~)", 1);
        errs("~+x", 1);
        errs("x+)", 2);
        errs("x++x", 2);
        errs("x+ y", 3);
        errs("(x x)", 3);
        errs("(x+1+1)", 4);
        errs("(x+1x)", 4);
        errs("(x(x))", 2);
        errs("(~x~x)", 3);
        errs("\u0000", 0);
        errs("\u00ff", 0);
        errs("x+\u00f8", 2);
        errs("X", 0);
    }

    // "at the end of the tape (its length) if it ends too early": each beginning that is no formula itself
    private static void checkTooEarlyEnds() {
        String text = "~(x+15)-(<3*(x))";
        for (int end = 0; end <= text.length(); end++) {
            boolean isFormula = end == "~(x+15)".length() || end == text.length();
            for (int blanks = 0; blanks <= 3; blanks++) {
                String beginning = text.substring(0, end) + " ".repeat(blanks);
                TrickFinder finder = new TrickFinder();
                CHECK.same("read() of " + beginning, Finders.readText(finder, beginning),
                        isFormula ? -1 : end + blanks);
            }
        }
    }

    // "or behind the formula at the next byte that is no blank"
    private static void checkBehindTheFormula() {
        errs("x)", 1);
        errs("x  )", 3);
        errs("x+1)", 3);
        errs("x+1+1", 3);
        errs("x+1   -1", 6);
        errs("(x)(", 3);
        errs("(x)  x", 5);
        errs("~x ~", 3);
        errs("15   15", 5);
        errs("x+1  99", 5);
        errs("(x+1)-1-1", 7);
        errs("(x+1)-1 y", 8);
        reads("x      ", X);
        reads("x+1    ", 0x0FEDCBA987654321L);
    }

    private static void checkFirstErrorIsTold() {
        errs("16+y", 0);
        errs("y+16", 0);
        errs("x+16)", 2);
        errs("x)16", 1);
        errs("(".repeat(21) + "16", 20);
        errs("16" + "(".repeat(30), 0);
        errs("~y" + "(".repeat(30), 1);
    }

    // "the tape is empty then": behind an error too
    private static void checkTapeIsEmptyThen() {
        for (String text : new String[] {"x", "15+x", "x y", "16", "x+", "", " ", "~".repeat(21), " ".repeat(300)}) {
            TrickFinder finder = new TrickFinder();
            Finders.readText(finder, text);
            CHECK.isRefused("trim(1) behind read() of " + text, finder, IllegalArgumentException.class,
                    () -> finder.trim(1));
            CHECK.same("read() again behind " + text, finder.read(), 0);
            CHECK.same("feed behind read() of " + text, finder.feed(0, 0, 0, 0, 0), 20);
        }
    }

    // "the function of the formula that was read last without an error"
    private static void checkResultStays() {
        TrickFinder finder = new TrickFinder();
        Finders.readText(finder, "x");
        CHECK.same("result() of x", finder.result(), X);
        Finders.readText(finder, "15 1");
        CHECK.same("result() behind an error", finder.result(), X);
        finder.read();
        CHECK.same("result() behind read() of nothing", finder.result(), X);
        Finders.readText(finder, "0");
        CHECK.same("result() of 0", finder.result(), 0);
        Finders.readText(finder, "x+16");
        CHECK.same("result() of 0 behind an error", finder.result(), 0);
        Finders.readText(finder, "~0");
        finder.search(2);
        CHECK.same("result() behind a search", finder.result(), -1);
    }

    // "(with all operations and constants, allowed or not)"
    private static void checkNotAllowedIsRead() {
        for (int op = 0; op <= 9; op++) {
            TrickFinder finder = Finders.withOnly();
            finder.setConstant(1, false);
            String text = op < 4 ? ONE_SIGNS.charAt(op) + "15" : "15" + TWO_SIGNS.charAt(op - 4) + "14";
            CHECK.same("read() of " + text, Finders.readText(finder, text), -1);
            CHECK.same("result() of " + text, finder.result(), finder.apply(op, 15 * ONE, 14 * ONE));
            CHECK.same("apply() is not allowed, but made", finder.apply(op, X, ONE),
                    new TrickFinder().apply(op, X, ONE));
        }
    }

    // Each text of up to five of these bytes is read as the plain finder reads it.
    private static void checkAllShortTexts() {
        checkTextsFrom("", "x016 ()~-+", 4);
        checkTextsFrom("", "x1 (~)*", 5);
    }

    private static void checkTextsFrom(String text, String bytes, int more) {
        TrickFinder finder = new TrickFinder();
        PlainFinder plain = new PlainFinder();
        Finders.feedText(finder, text);
        Finders.feedText(plain, text);
        CHECK.same("read() of " + text, finder.read(), plain.read());
        CHECK.same("result() of " + text, finder.result(), plain.result());
        for (int k = 0; k < bytes.length() && more > 0; k++) {
            checkTextsFrom(text + bytes.charAt(k), bytes, more - 1);
        }
    }
}
