/** Counts the checks of one test program and tells those that fail. */
final class Check {
    /** A call that should throw. */
    interface Call {
        void run();
    }

    private final String name;
    private int checks;
    private int failures;

    Check(String name) {
        this.name = name;
    }

    void same(String what, long got, long want) {
        checks++;
        if (got != want) {
            fail(what + " answered " + got + ", due is " + want);
        }
    }

    void sameDouble(String what, double got, double want) {
        checks++;
        if (got != want) {
            fail(what + " answered " + got + ", due is " + want);
        }
    }

    void isTrue(String what, boolean got) {
        same(what, got ? 1 : 0, 1);
    }

    void isFalse(String what, boolean got) {
        same(what, got ? 1 : 0, 0);
    }

    /** The call throws exactly this kind of exception, and the finder is as it was. */
    void isRefused(String what, TrickFinder finder, Class<?> kind, Call call) {
        long before = finder.digest();
        String thrown = "nothing";
        try {
            call.run();
        } catch (RuntimeException e) {
            thrown = e.getClass().getName();
        }
        checks++;
        if (!thrown.equals(kind.getName())) {
            fail(what + " threw " + thrown + ", due is " + kind.getName());
        }
        same(what + " changes nothing", finder.digest(), before);
    }

    private void fail(String text) {
        failures++;
        if (failures <= 50) {
            System.out.println(name + ": " + text);
        }
    }

    void finish() {
        System.out.println(name + ": " + checks + " checks, " + failures + " wrong");
        if (failures > 0) {
            System.exit(1);
        }
    }
}
