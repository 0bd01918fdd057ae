/** Promises 1 to 4: a new object, allow, setPrice, setConstant. */
final class SettingsTest {
    private static final Class<?> NO_INDEX = IndexOutOfBoundsException.class;
    private static final Class<?> NO_ARGUMENT = IllegalArgumentException.class;
    private static final Check CHECK = new Check("SettingsTest");

    public static void main(String[] args) {
        checkNewObject();
        checkAllow();
        checkSetPrice();
        checkSetConstant();
        CHECK.finish();
    }

    private static void checkNewObject() {
        TrickFinder finder = new TrickFinder();
        CHECK.same("entries() of a new object", finder.entries(), 0);
        for (int cost = 0; cost <= 6; cost++) {
            CHECK.same("ofCost(" + cost + ") of a new object", finder.ofCost(cost), 0);
        }
        CHECK.same("find(0) of a new object", finder.find(0), -1);
        CHECK.same("result() of a new object", finder.result(), 0);
        CHECK.isRefused("byteAt(0) of an empty paper", finder, NO_INDEX, () -> finder.byteAt(0));
        CHECK.isRefused("trim(1) of an empty tape", finder, NO_ARGUMENT, () -> finder.trim(1));
        CHECK.same("trim(0) of an empty tape", finder.trim(0), 0);
        for (int op = 0; op <= 10; op++) {
            CHECK.same("first price of " + op, new TrickFinder().setPrice(op, 1), 1);
        }
        CHECK.same("nine are allowed", finder.allow(9, false), 9);
        CHECK.same("1 alone is allowed", finder.setConstant(1, false), 0);
        CHECK.same("finders do not share what is set", new TrickFinder().setConstant(0, false), 1);
    }

    private static void checkAllow() {
        TrickFinder finder = new TrickFinder();
        CHECK.same("allow(9, true)", finder.allow(9, true), 10);
        CHECK.same("allow(9, true) again", finder.allow(9, true), 10);
        CHECK.same("allow(0, false)", finder.allow(0, false), 9);
        CHECK.same("allow(0, false) again", finder.allow(0, false), 9);
        for (int op = 1; op <= 9; op++) {
            CHECK.same("allow(" + op + ", false)", finder.allow(op, false), 9 - op);
        }
        CHECK.same("search(6) without operations", finder.search(6), 2);
        CHECK.same("allow(2, true)", finder.allow(2, true), 1);
        CHECK.same("search(1) with < alone", finder.search(1), 3);
        CHECK.same("the operation is <", finder.entry(2, 1), 2);
        for (int op : new int[] {-1, 10, Integer.MIN_VALUE, Integer.MAX_VALUE}) {
            CHECK.isRefused("allow(" + op + ", true)", finder, NO_INDEX, () -> finder.allow(op, true));
        }
    }

    private static void checkSetPrice() {
        TrickFinder finder = new TrickFinder();
        for (int op = 0; op <= 10; op++) {
            CHECK.same("setPrice(" + op + ", 5)", finder.setPrice(op, 5), 1);
            CHECK.same("setPrice(" + op + ", 2)", finder.setPrice(op, 2), 5);
        }
        CHECK.same("setPrice(10, 0)", finder.setPrice(10, 0), 2);
        CHECK.same("setPrice(10, 1)", finder.setPrice(10, 1), 0);
        for (int op : new int[] {-1, 11, Integer.MIN_VALUE, Integer.MAX_VALUE}) {
            CHECK.isRefused("setPrice(" + op + ", 1)", finder, NO_INDEX, () -> finder.setPrice(op, 1));
            CHECK.isRefused("setPrice(" + op + ", 6)", finder, NO_INDEX, () -> finder.setPrice(op, 6));
        }
        for (int op = 0; op <= 10; op++) {
            int priced = op;
            CHECK.isRefused("setPrice(" + op + ", 6)", finder, NO_ARGUMENT, () -> finder.setPrice(priced, 6));
            CHECK.isRefused("setPrice(" + op + ", -1)", finder, NO_ARGUMENT, () -> finder.setPrice(priced, -1));
        }
        for (int op = 0; op <= 9; op++) {
            int priced = op;
            CHECK.isRefused("setPrice(" + op + ", 0)", finder, NO_ARGUMENT, () -> finder.setPrice(priced, 0));
        }
        CHECK.same("search(1) where operations cost 2", finder.search(1), 2);
        CHECK.same("the constant costs 1", finder.entry(1, 0), 1);
    }

    private static void checkSetConstant() {
        TrickFinder finder = new TrickFinder();
        CHECK.same("setConstant(1, true)", finder.setConstant(1, true), 1);
        CHECK.same("setConstant(0, true)", finder.setConstant(0, true), 2);
        CHECK.same("setConstant(15, true)", finder.setConstant(15, true), 3);
        CHECK.same("setConstant(15, true) again", finder.setConstant(15, true), 3);
        CHECK.same("setConstant(0, false)", finder.setConstant(0, false), 2);
        CHECK.same("setConstant(0, false) again", finder.setConstant(0, false), 2);
        finder.setPrice(10, 0);
        CHECK.same("search(0)", finder.search(0), 3);
        CHECK.same("the last constant", finder.entry(2, 2), 15);
        for (int value : new int[] {-1, 16, Integer.MIN_VALUE, Integer.MAX_VALUE}) {
            CHECK.isRefused("setConstant(" + value + ", true)", finder, NO_ARGUMENT,
                    () -> finder.setConstant(value, true));
        }
    }
}
