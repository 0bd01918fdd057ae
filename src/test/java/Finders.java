/** Finders as the tests need them. */
final class Finders {
    private Finders() {
    }

    /** A finder that has only these operations, and only the constant 1. */
    static TrickFinder withOnly(int... operations) {
        TrickFinder finder = new TrickFinder();
        for (int op = 0; op < 10; op++) {
            finder.allow(op, false);
        }
        for (int op : operations) {
            finder.allow(op, true);
        }
        return finder;
    }
}
