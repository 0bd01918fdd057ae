/** The ends of writing: numbers of one and two digits, and which arguments stand in brackets. */
final class WritingBoundsTest {
    private static final String SIGNS = "~-<>&|^+-*";
    private static final Check CHECK = new Check("WritingBoundsTest");
    private static int bracketsInside;

    public static void main(String[] args) {
        checkX();
        checkNumbers();
        checkSigns();
        checkBrackets();
        checkPlaceOfWhatWasThere();
        checkPaperStays();
        CHECK.finish();
    }

    private static void checkWritten(TrickFinder finder, int entry, String due) {
        String text = Finders.writtenBy(finder, entry);
        CHECK.isTrue("entry " + entry + " is written as " + text + ", due is " + due + ":", text.equals(due));
    }

    // "x as x (120)"
    private static void checkX() {
        TrickFinder finder = new TrickFinder();
        finder.search(0);
        CHECK.same("write(0)", finder.write(0), 1);
        CHECK.same("byteAt(0)", finder.byteAt(0), 120);
    }

    // "a constant in decimal digits": one digit up to 9, two from 10
    private static void checkNumbers() {
        TrickFinder finder = Finders.withOnly();
        for (int value = 0; value < 16; value++) {
            finder.setConstant(value, true);
        }
        finder.setPrice(10, 0);
        finder.search(0);
        for (int value = 0; value < 16; value++) {
            checkWritten(finder, value + 1, "" + value);
        }
    }

    // "The signs are ~ (126), - (45), < (60), > (62), & (38), | (124), ^ (94), + (43), - (45), * (42)."
    private static void checkSigns() {
        int[] due = {126, 45, 60, 62, 38, 124, 94, 43, 45, 42};
        for (int op = 0; op <= 9; op++) {
            TrickFinder finder = Finders.withOnly(op);
            finder.setConstant(1, false);
            finder.setConstant(6, true);
            finder.setPrice(10, 0);
            finder.search(1);
            finder.write(finder.find(finder.apply(op, Finders.X, 6 * Finders.ONE)));
            CHECK.same("the sign of " + op, finder.byteAt(op < 4 ? 0 : 1), due[op]);
            CHECK.same("the first argument of " + op, finder.byteAt(op < 4 ? 1 : 0), 'x');
        }
    }

    /** What is due by the words of the document, from what entry() tells. */
    private static String due(TrickFinder finder, int entry, boolean isArgument) {
        int op = finder.entry(entry, 1);
        if (op < 0) {
            return op == -1 ? "x" : "" + finder.entry(entry, 2);
        }
        String first = due(finder, finder.entry(entry, 2), true);
        if (op < 4) {
            return SIGNS.charAt(op) + first;
        }
        String whole = first + SIGNS.charAt(op) + due(finder, finder.entry(entry, 3), true);
        bracketsInside += isArgument ? 1 : 0;
        return isArgument ? "(" + whole + ")" : whole;
    }

    // "where an argument is an operation with two arguments, it stands between ( and )"
    private static void checkBrackets() {
        for (int inner = 0; inner <= 9; inner++) {
            for (int outer = 0; outer <= 9; outer++) {
                int entries = twoOperations(inner, outer).entries();
                for (int entry = 0; entry < entries; entry += 3) {
                    TrickFinder finder = twoOperations(inner, outer);
                    checkWritten(finder, entry, due(finder, entry, false));
                }
            }
        }
        CHECK.isTrue("brackets inside were due " + bracketsInside + " times:", bracketsInside > 2000);
    }

    private static TrickFinder twoOperations(int inner, int outer) {
        TrickFinder finder = Finders.withOnly(inner, outer);
        finder.setPrice(10, 0);
        finder.setConstant(11, true);
        finder.search(3);
        return finder;
    }

    // "on the paper, in the place of what was there": a shorter one leaves nothing of a longer one
    private static void checkPlaceOfWhatWasThere() {
        TrickFinder finder = new TrickFinder();
        finder.search(1);
        CHECK.same("write(6), x^x", finder.write(6), 3);
        CHECK.same("write(2), ~x", finder.write(2), 2);
        CHECK.same("byteAt(1)", finder.byteAt(1), 'x');
        CHECK.isRefused("byteAt(2)", finder, IndexOutOfBoundsException.class, () -> finder.byteAt(2));
        CHECK.same("write(1), 1", finder.write(1), 1);
        CHECK.same("byteAt(0)", finder.byteAt(0), '1');
        CHECK.isRefused("byteAt(1)", finder, IndexOutOfBoundsException.class, () -> finder.byteAt(1));
    }

    // "A method that throws an exception changes nothing.", and neither a search nor a reading writes
    private static void checkPaperStays() {
        TrickFinder finder = new TrickFinder();
        finder.search(1);
        finder.write(6);
        CHECK.isRefused("write(7)", finder, IndexOutOfBoundsException.class, () -> finder.write(7));
        CHECK.isRefused("write(-1)", finder, IndexOutOfBoundsException.class, () -> finder.write(-1));
        finder.search(0);
        CHECK.isRefused("write(1)", finder, IndexOutOfBoundsException.class, () -> finder.write(1));
        Finders.readText(finder, "15");
        CHECK.same("byteAt(0)", finder.byteAt(0), 'x');
        CHECK.same("byteAt(1)", finder.byteAt(1), '^');
        CHECK.same("byteAt(2)", finder.byteAt(2), 'x');
        CHECK.isRefused("byteAt(3)", finder, IndexOutOfBoundsException.class, () -> finder.byteAt(3));
    }
}
