/** Finders as the tests need them, and what several tests do with one. */
final class Finders {
    static final long X = 0xFEDCBA9876543210L;
    static final long ONE = 0x1111111111111111L;
    /** An object is used for at most so many calls: no test uses one for more. */
    static final int MOST_CALLS = 512;
    static final int MOST_ENTRIES = 2000;
    static final int MOST_BYTES = 300;

    private Finders() {
    }

    /** A finder that has only these operations, and only the constant 1. */
    static TrickFinder withOnly(int... operations) {
        TrickFinder finder = new TrickFinder();
        for (int op = 0; op < 10; op++) {
            finder.allow(op, false);
        }
        for (int op : operations) {
            finder.allow(op, true);
        }
        return finder;
    }

    /** A finder with 41 entries, 2 bytes on the paper and 5 on the tape, and a result that is not 0. */
    static TrickFinder inUse() {
        TrickFinder finder = new TrickFinder();
        finder.search(2);
        finder.write(2);
        readText(finder, "x+1");
        finder.allow(9, true);
        finder.allow(3, false);
        finder.setPrice(7, 3);
        finder.setPrice(10, 0);
        finder.setConstant(13, true);
        feedText(finder, "~(3-x");
        return finder;
    }

    /** A finder with 2000 entries and 300 bytes on the tape, on which every operation and constant is allowed. */
    static TrickFinder full() {
        TrickFinder finder = new TrickFinder();
        finder.allow(9, true);
        for (int value = 0; value < 16; value++) {
            finder.setConstant(value, true);
        }
        finder.setPrice(10, 0);
        finder.search(6);
        finder.write(MOST_ENTRIES - 1);
        readText(finder, "x*15");
        feedText(finder, " ".repeat(MOST_BYTES - 3) + "x-9");
        return finder;
    }

    /** The five numbers of the twenty bytes of this text from a place on, with blanks behind its end. */
    static int[] fiveNumbers(String text, int from) {
        int[] n = new int[5];
        for (int i = 0; i < 20; i++) {
            n[i / 4] = n[i / 4] << 8 | (from + i < text.length() ? text.charAt(from + i) : ' ');
        }
        return n;
    }

    /** Feeds an empty tape with this text. */
    static void feedText(TrickFinder finder, String text) {
        for (int k = 0; k < text.length(); k += 20) {
            int[] n = fiveNumbers(text, k);
            finder.feed(n[0], n[1], n[2], n[3], n[4]);
        }
        finder.trim(text.length());
    }

    static void feedText(PlainFinder finder, String text) {
        for (int k = 0; k < text.length(); k += 20) {
            int[] n = fiveNumbers(text, k);
            finder.feed(n[0], n[1], n[2], n[3], n[4]);
        }
        finder.trim(text.length());
    }

    static int readText(TrickFinder finder, String text) {
        feedText(finder, text);
        return finder.read();
    }

    static String writtenBy(TrickFinder finder, int entry) {
        int length = finder.write(entry);
        StringBuilder text = new StringBuilder();
        for (int k = 0; k < length; k++) {
            text.append((char) finder.byteAt(k));
        }
        return text.toString();
    }
}
