import java.util.Random;
import java.util.function.LongSupplier;

/** Runs of calls from fixed seeds: the TrickFinder answers as the PlainFinder does. */
final class RandomRunsTest {
    private static final int RUNS = 150;
    private static final long X = Finders.X;

    private final Check check = new Check("RandomRunsTest");
    private Random random;
    private TrickFinder fast;
    private PlainFinder plain;
    private int seed;
    private int calls;

    public static void main(String[] args) {
        RandomRunsTest test = new RandomRunsTest();
        for (int seed = 0; seed < RUNS; seed++) {
            test.compareRun(seed);
        }
        test.check.finish();
    }

    private void compareRun(int runSeed) {
        seed = runSeed;
        calls = 0;
        random = new Random(seed);
        fast = new TrickFinder();
        plain = new PlainFinder();
        for (int turn = 0; calls < Finders.MOST_CALLS - 1; turn++) {
            compareCall();
            if (turn % 64 == 63) {
                both("digest()", () -> fast.digest(), () -> plain.digest());
            }
        }
        compare("digest()", () -> fast.digest(), () -> plain.digest());
    }

    private static String answer(LongSupplier call) {
        try {
            return "" + call.getAsLong();
        } catch (RuntimeException e) {
            return "throws." + e.getClass().getName();
        }
    }

    /** Compares the call of both, but for the last one that the document allows, which is digest(). */
    private void both(String call, LongSupplier got, LongSupplier want) {
        if (calls < Finders.MOST_CALLS - 1) {
            compare(call, got, want);
        }
    }

    private void compare(String call, LongSupplier got, LongSupplier want) {
        calls++;
        String due = answer(want);
        String answered = answer(got);
        String told = "run " + seed + ", call " + calls + ": " + call + " answered " + answered + ", due is " + due;
        check.isTrue(told + ":", answered.equals(due));
    }

    private static long bit(boolean b) {
        return b ? 1 : 0;
    }

    /** A number from least to most, or now and then one beside them. */
    private int about(int least, int most) {
        int dice = random.nextInt(40);
        if (dice == 0) {
            return least - 1;
        }
        if (dice == 1) {
            return most + 1;
        }
        if (dice == 2) {
            return random.nextInt();
        }
        return least + random.nextInt(most - least + 1);
    }

    private int anEntry() {
        return about(0, Math.max(plain.entries() - 1, 0));
    }

    private long aFunction() {
        int kind = random.nextInt(6);
        if (kind == 0 && plain.entries() > 0) {
            return plain.function(random.nextInt(plain.entries()));
        }
        if (kind == 1) {
            return plain.apply(4 + random.nextInt(6), X, 0x1111111111111111L * random.nextInt(16));
        }
        if (kind == 2) {
            return permutation();
        }
        if (kind == 3) {
            return X ^ 15L << 4 * random.nextInt(16);
        }
        return kind == 4 ? aRisingFunction() : random.nextLong();
    }

    private long permutation() {
        int[] values = PlainFinder.valuesOf(X);
        for (int x = 15; x > 0; x--) {
            int y = random.nextInt(x + 1);
            int kept = values[x];
            values[x] = values[y];
            values[y] = kept;
        }
        return PlainFinder.functionOf(values);
    }

    private long aRisingFunction() {
        int[] values = new int[16];
        for (int x = 1; x < 16; x++) {
            values[x] = Math.min(15, values[x - 1] + random.nextInt(3));
        }
        return PlainFinder.functionOf(values);
    }

    private void compareCall() {
        int kind = random.nextInt(100);
        if (kind < 20) {
            compareSettings(kind);
        } else if (kind < 45) {
            compareFunctions(kind % 6);
        } else if (kind < 50) {
            int budget = random.nextInt(3) == 0 ? about(0, 6) : about(0, 3);
            both("search(" + budget + ")", () -> fast.search(budget), () -> plain.search(budget));
        } else if (kind < 75) {
            compareSearch(kind % 8);
        } else if (kind < 80) {
            compareRaw(kind % 2);
        } else {
            compareFormula();
        }
    }

    private void compareSettings(int kind) {
        boolean isOn = random.nextInt(3) > 0;
        int op = about(0, 9);
        int priced = about(0, 10);
        int price = random.nextInt(3) == 0 ? about(0, 5) : 1;
        int constant = about(0, 15);
        if (kind < 6) {
            both("allow(" + op + ", " + isOn + ")", () -> fast.allow(op, isOn), () -> plain.allow(op, isOn));
        } else if (kind < 13) {
            both("setPrice(" + priced + ", " + price + ")",
                    () -> fast.setPrice(priced, price), () -> plain.setPrice(priced, price));
        } else {
            both("setConstant(" + constant + ", " + isOn + ")",
                    () -> fast.setConstant(constant, isOn), () -> plain.setConstant(constant, isOn));
        }
    }

    private void compareFunctions(int kind) {
        long f = aFunction();
        long g = aFunction();
        int n = about(0, new int[] {15, 9, 0, 0, 4, 3}[kind]);
        String call = "function call " + kind + " of " + f + ", " + g + ", " + n;
        switch (kind) {
            case 0 -> both(call, () -> fast.value(f, n), () -> plain.value(f, n));
            case 1 -> both(call, () -> fast.apply(n, f, g), () -> plain.apply(n, f, g));
            case 2 -> both(call, () -> fast.compose(f, g), () -> plain.compose(f, g));
            case 3 -> both(call, () -> fast.inverse(f), () -> plain.inverse(f));
            case 4 -> both(call, () -> fast.measure(f, n), () -> plain.measure(f, n));
            default -> both(call, () -> bit(fast.is(f, n)), () -> bit(plain.is(f, n)));
        }
    }

    private void compareSearch(int kind) {
        long f = aFunction();
        int e = anEntry();
        int what = about(0, 3);
        int cost = about(0, 6);
        int inputs = random.nextInt(3) == 0 ? about(0, 65535) : 1 << random.nextInt(16) | 1 << random.nextInt(16);
        String call = "search call " + kind + " of " + f + ", " + e + ", " + what + ", " + cost + ", " + inputs;
        switch (kind) {
            case 0 -> both(call, () -> fast.ofCost(cost), () -> plain.ofCost(cost));
            case 1 -> both(call, () -> fast.function(e), () -> plain.function(e));
            case 2 -> both(call, () -> fast.entry(e, what), () -> plain.entry(e, what));
            case 3 -> both(call, () -> fast.find(f), () -> plain.find(f));
            case 4 -> both(call, () -> fast.fit(f, inputs), () -> plain.fit(f, inputs));
            case 5 -> both(call, () -> fast.near(f), () -> plain.near(f));
            case 6 -> both(call, () -> fast.parts(e), () -> plain.parts(e));
            default -> both(call, () -> Double.doubleToLongBits(fast.meanCost()),
                    () -> Double.doubleToLongBits(plain.meanCost()));
        }
    }

    private void compareRaw(int kind) {
        if (kind == 0) {
            int[] n = random.ints(5).toArray();
            both("feed", () -> fast.feed(n[0], n[1], n[2], n[3], n[4]),
                    () -> plain.feed(n[0], n[1], n[2], n[3], n[4]));
        } else {
            int n = about(0, 300);
            both("trim(" + n + ")", () -> fast.trim(n), () -> plain.trim(n));
        }
    }

    private void compareFormula() {
        if (random.nextInt(4) == 0) {
            int e = anEntry();
            int k = about(0, 12);
            both("write(" + e + ")", () -> fast.write(e), () -> plain.write(e));
            both("byteAt(" + k + ")", () -> fast.byteAt(k), () -> plain.byteAt(k));
            return;
        }
        StringBuilder text = new StringBuilder();
        putFormula(text, random.nextInt(26));
        if (random.nextInt(2) == 0) {
            damage(text);
        }
        readBoth(text.length() > 300 ? text.substring(0, 300) : text.toString());
    }

    private void readBoth(String text) {
        both("trim(0)", () -> fast.trim(0), () -> plain.trim(0));
        for (int k = 0; k < text.length(); k += 20) {
            int[] n = Finders.fiveNumbers(text, k);
            both("feed", () -> fast.feed(n[0], n[1], n[2], n[3], n[4]),
                    () -> plain.feed(n[0], n[1], n[2], n[3], n[4]));
        }
        both("trim", () -> fast.trim(text.length()), () -> plain.trim(text.length()));
        both("read() of '" + text + "'", () -> fast.read(), () -> plain.read());
        both("result()", () -> fast.result(), () -> plain.result());
    }

    private void putBlanks(StringBuilder text) {
        if (random.nextInt(8) == 0) {
            text.append(" ".repeat(1 + random.nextInt(2)));
        }
    }

    private void putFormula(StringBuilder text, int levels) {
        putPart(text, levels);
        if (random.nextInt(3) > 0) {
            putBlanks(text);
            text.append("&|^+-*".charAt(random.nextInt(6)));
            putPart(text, random.nextInt(4));
        }
        putBlanks(text);
    }

    private void putPart(StringBuilder text, int levels) {
        putBlanks(text);
        if (levels <= 0) {
            int number = random.nextInt(25);
            text.append(number > 15 ? "x" : number == 0 ? "07" : "" + number);
        } else if (random.nextInt(2) == 0) {
            text.append("~-<>".charAt(random.nextInt(4)));
            putPart(text, levels - 1);
        } else {
            text.append('(');
            putFormula(text, levels - 1);
            text.append(')');
        }
    }

    private void damage(StringBuilder text) {
        String bytes = "x019 ()~-<>&|^+*y\u0000\u00f8\u00ff";
        int place = random.nextInt(text.length() + 1);
        char sign = bytes.charAt(random.nextInt(bytes.length()));
        int kind = random.nextInt(3);
        if (kind == 0) {
            text.insert(place, sign);
        } else if (kind == 1 && place < text.length()) {
            text.setCharAt(place, sign);
        } else {
            text.setLength(place);
        }
    }
}
