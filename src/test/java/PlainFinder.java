import java.util.ArrayList;
import java.util.Arrays;
import java.util.HashSet;
import java.util.List;
import java.util.Set;

/** The document once more, in its slowest and plainest form, to compare the TrickFinder with. */
final class PlainFinder {
    private static final String SIGNS = "~-<>&|^+-*";

    private record Entry(long function, int cost, int op, int first, int second) {
    }

    private final int[] prices = new int[11];
    private final boolean[] allowed = new boolean[10];
    private final boolean[] constants = new boolean[16];
    private final List<Entry> row = new ArrayList<>();
    private final Set<Long> known = new HashSet<>();
    private String paper = "";
    private final List<Integer> tape = new ArrayList<>();
    private long result;

    PlainFinder() {
        Arrays.fill(prices, 1);
        Arrays.fill(allowed, 0, 9, true);
        constants[1] = true;
    }

    static int[] valuesOf(long f) {
        int[] values = new int[16];
        for (int x = 0; x < 16; x++) {
            values[x] = (int) ((f >>> (4 * x)) & 15);
        }
        return values;
    }

    static long functionOf(int[] values) {
        long f = 0;
        for (int x = 15; x >= 0; x--) {
            f = f * 16 + values[x];
        }
        return f;
    }

    private static IndexOutOfBoundsException noIndex() {
        return new IndexOutOfBoundsException();
    }

    private static IllegalArgumentException noArgument() {
        return new IllegalArgumentException();
    }

    private static int count(boolean[] flags) {
        int n = 0;
        for (boolean flag : flags) {
            if (flag) {
                n++;
            }
        }
        return n;
    }

    int allow(int op, boolean isOn) {
        if (op < 0 || op > 9) {
            throw noIndex();
        }
        allowed[op] = isOn;
        return count(allowed);
    }

    int setPrice(int op, int price) {
        if (op < 0 || op > 10) {
            throw noIndex();
        }
        if (price > 5 || price < 0 || price == 0 && op != 10) {
            throw noArgument();
        }
        int old = prices[op];
        prices[op] = price;
        return old;
    }

    int setConstant(int value, boolean isOn) {
        if (value < 0 || value > 15) {
            throw noArgument();
        }
        constants[value] = isOn;
        return count(constants);
    }

    int value(long f, int x) {
        if (x < 0 || x > 15) {
            throw noArgument();
        }
        return valuesOf(f)[x];
    }

    private static int operate(int op, int a, int b) {
        int[] all = {15 - a, 16 - a, 2 * a, a / 2, a & b, a | b, a ^ b, a + b, a - b, a * b};
        return Math.floorMod(all[op], 16);
    }

    long apply(int op, long f, long g) {
        if (op < 0 || op > 9) {
            throw noIndex();
        }
        int[] values = new int[16];
        for (int x = 0; x < 16; x++) {
            values[x] = operate(op, valuesOf(f)[x], valuesOf(g)[x]);
        }
        return functionOf(values);
    }

    long compose(long f, long g) {
        int[] values = new int[16];
        for (int x = 0; x < 16; x++) {
            values[x] = valuesOf(f)[valuesOf(g)[x]];
        }
        return functionOf(values);
    }

    long inverse(long f) {
        int[] inverse = new int[16];
        Arrays.fill(inverse, -1);
        for (int x = 0; x < 16; x++) {
            int y = valuesOf(f)[x];
            if (inverse[y] >= 0) {
                throw new IllegalStateException();
            }
            inverse[y] = x;
        }
        return functionOf(inverse);
    }

    private static boolean comesBack(int[] f, int x) {
        int y = x;
        for (int step = 0; step < 16; step++) {
            y = f[y];
            if (y == x) {
                return true;
            }
        }
        return false;
    }

    int measure(long function, int what) {
        if (what < 0 || what > 4) {
            throw noIndex();
        }
        int[] f = valuesOf(function);
        int fixed = 0;
        Set<Integer> different = new HashSet<>();
        int bits = 0;
        int returning = 0;
        int longest = 0;
        for (int x = 0; x < 16; x++) {
            fixed += f[x] == x ? 1 : 0;
            different.add(f[x]);
            bits += Integer.bitCount(f[x] ^ x);
            returning += comesBack(f, x) ? 1 : 0;
            int steps = 0;
            for (int y = x; !comesBack(f, y); y = f[y]) {
                steps++;
            }
            longest = Math.max(longest, steps);
        }
        return new int[] {fixed, different.size(), bits, returning, longest}[what];
    }

    boolean is(long function, int what) {
        if (what < 0 || what > 3) {
            throw noIndex();
        }
        int[] f = valuesOf(function);
        for (int a = 0; a < 16; a++) {
            if (what == 2 && f[f[a]] != f[a]) {
                return false;
            }
            for (int b = 0; b < 16; b++) {
                if (what == 0 && f[a ^ b] != (f[a] ^ f[b]) || what == 1 && a > b && f[a] < f[b]) {
                    return false;
                }
                for (int bit = 0; what == 3 && bit < 4; bit++) {
                    boolean alike = a % (2 << bit) == b % (2 << bit);
                    if (alike && (f[a] >> bit) % 2 != (f[b] >> bit) % 2) {
                        return false;
                    }
                }
            }
        }
        return true;
    }

    private void add(long f, int cost, int op, int first, int second) {
        if (row.size() < 2000 && known.add(f)) {
            row.add(new Entry(f, cost, op, first, second));
        }
    }

    private List<Integer> withCost(int cost) {
        List<Integer> found = new ArrayList<>();
        for (int e = 0; e < row.size(); e++) {
            if (row.get(e).cost == cost) {
                found.add(e);
            }
        }
        return found;
    }

    int search(int budget) {
        if (budget < 0 || budget > 6) {
            throw noArgument();
        }
        row.clear();
        known.clear();
        for (int c = 0; c <= budget; c++) {
            if (c == 0) {
                add(0xFEDCBA9876543210L, 0, -1, -1, -1);
            }
            for (int v = 0; v < 16 && c == prices[10]; v++) {
                if (constants[v]) {
                    int[] values = new int[16];
                    Arrays.fill(values, v);
                    add(functionOf(values), c, -2, v, -1);
                }
            }
            for (int op = 0; op < 10; op++) {
                if (allowed[op] && c >= prices[op]) {
                    searchWith(op, c, c - prices[op]);
                }
            }
        }
        return row.size();
    }

    private void searchWith(int op, int c, int rest) {
        if (op < 4) {
            for (int e : withCost(rest)) {
                add(apply(op, row.get(e).function, 0), c, op, e, -1);
            }
            return;
        }
        for (int a = 0; a <= rest; a++) {
            List<Integer> seconds = withCost(rest - a);
            for (int e : withCost(a)) {
                for (int s : seconds) {
                    if (row.size() == 2000) {
                        return;
                    }
                    add(apply(op, row.get(e).function, row.get(s).function), c, op, e, s);
                }
            }
        }
    }

    int entries() {
        return row.size();
    }

    int ofCost(int cost) {
        if (cost < 0 || cost > 6) {
            throw noArgument();
        }
        return withCost(cost).size();
    }

    private Entry get(int entry) {
        if (entry < 0 || entry >= row.size()) {
            throw noIndex();
        }
        return row.get(entry);
    }

    long function(int entry) {
        return get(entry).function;
    }

    int entry(int entry, int what) {
        Entry e = get(entry);
        if (what < 0 || what > 3) {
            throw noIndex();
        }
        return new int[] {e.cost, e.op, e.first, e.second}[what];
    }

    int find(long f) {
        return fit(f, 65535);
    }

    int fit(long f, int inputs) {
        if (inputs < 0 || inputs > 65535) {
            throw noArgument();
        }
        int[] wanted = valuesOf(f);
        for (int e = 0; e < row.size(); e++) {
            int[] values = valuesOf(row.get(e).function);
            boolean fits = true;
            for (int x = 0; x < 16; x++) {
                fits &= (inputs >> x) % 2 == 0 || values[x] == wanted[x];
            }
            if (fits) {
                return e;
            }
        }
        return -1;
    }

    int near(long f) {
        int[] wanted = valuesOf(f);
        for (int most = 0; most <= 16; most++) {
            for (int e = 0; e < row.size(); e++) {
                int[] values = valuesOf(row.get(e).function);
                int differences = 0;
                for (int x = 0; x < 16; x++) {
                    differences += values[x] == wanted[x] ? 0 : 1;
                }
                if (differences == most) {
                    return e;
                }
            }
        }
        return -1;
    }

    int parts(int entry) {
        get(entry);
        Set<Integer> parts = new HashSet<>();
        collect(entry, parts);
        return parts.size();
    }

    private void collect(int entry, Set<Integer> parts) {
        parts.add(entry);
        Entry e = row.get(entry);
        if (e.op >= 0) {
            collect(e.first, parts);
        }
        if (e.op >= 4) {
            collect(e.second, parts);
        }
    }

    double meanCost() {
        double sum = 0;
        for (Entry e : row) {
            sum += e.cost;
        }
        return row.isEmpty() ? 0 : sum / row.size();
    }

    private String text(int entry, boolean isArgument) {
        Entry e = row.get(entry);
        if (e.op == -1) {
            return "x";
        }
        if (e.op == -2) {
            return "" + e.first;
        }
        if (e.op < 4) {
            return SIGNS.charAt(e.op) + text(e.first, true);
        }
        String whole = text(e.first, true) + SIGNS.charAt(e.op) + text(e.second, true);
        return isArgument ? "(" + whole + ")" : whole;
    }

    int write(int entry) {
        get(entry);
        paper = text(entry, false);
        return paper.length();
    }

    int byteAt(int k) {
        if (k < 0 || k >= paper.length()) {
            throw noIndex();
        }
        return paper.charAt(k);
    }

    int feed(int a, int b, int c, int d, int e) {
        if (tape.size() > 280) {
            throw new IllegalStateException();
        }
        for (int four : new int[] {a, b, c, d, e}) {
            for (int power = 3; power >= 0; power--) {
                tape.add((int) (Integer.toUnsignedLong(four) / (1L << 8 * power) % 256));
            }
        }
        return tape.size();
    }

    int trim(int n) {
        if (n < 0 || n > tape.size()) {
            throw noArgument();
        }
        while (tape.size() > n) {
            tape.remove(tape.size() - 1);
        }
        return n;
    }

    int read() {
        Reading reading = new Reading();
        int error = reading.run(tape);
        tape.clear();
        if (error == -1) {
            result = reading.levels.get(0).function;
        }
        return error;
    }

    /** What stands open between a bracket and its end: how many parts it has, and the signs waiting. */
    private static final class Level {
        int parts;
        boolean wantsPart = true;
        long function;
        int op = -1;
        final List<Integer> waiting = new ArrayList<>();
    }

    /** A reader without recursion: a stack of levels. */
    private final class Reading {
        final List<Level> levels = new ArrayList<>();

        int run(List<Integer> bytes) {
            levels.add(new Level());
            int i = 0;
            while (i < bytes.size()) {
                int used = take(bytes, i);
                if (used == 0) {
                    return i;
                }
                i += used;
            }
            return levels.size() == 1 && !top().wantsPart ? -1 : i;
        }

        private Level top() {
            return levels.get(levels.size() - 1);
        }

        private int depth() {
            int depth = levels.size() - 1;
            for (Level level : levels) {
                depth += level.waiting.size();
            }
            return depth;
        }

        /** How many bytes are taken from place i; 0 if there is an error. */
        private int take(List<Integer> bytes, int i) {
            int b = bytes.get(i);
            if (b == ' ') {
                return 1;
            }
            return top().wantsPart ? takePart(bytes, i, b) : takeBehind(b);
        }

        private int takePart(List<Integer> bytes, int i, int b) {
            if (b == 'x') {
                give(0xFEDCBA9876543210L);
                return 1;
            }
            if (b >= '0' && b <= '9') {
                boolean two = i + 1 < bytes.size() && bytes.get(i + 1) >= '0' && bytes.get(i + 1) <= '9';
                int number = two ? (b - '0') * 10 + bytes.get(i + 1) - '0' : b - '0';
                if (number > 15) {
                    return 0;
                }
                int[] values = new int[16];
                Arrays.fill(values, number);
                give(functionOf(values));
                return two ? 2 : 1;
            }
            int op = SIGNS.substring(0, 4).indexOf(b);
            if (b != '(' && op < 0 || depth() == 20) {
                return 0;
            }
            if (b == '(') {
                levels.add(new Level());
            } else {
                top().waiting.add(op);
            }
            return 1;
        }

        private int takeBehind(int b) {
            int op = SIGNS.indexOf(b, 4);
            if (op >= 4 && top().parts == 1) {
                top().op = op;
                top().wantsPart = true;
                return 1;
            }
            if (b != ')' || levels.size() == 1) {
                return 0;
            }
            long whole = levels.remove(levels.size() - 1).function;
            give(whole);
            return 1;
        }

        private void give(long part) {
            Level level = top();
            long f = part;
            for (int k = level.waiting.size() - 1; k >= 0; k--) {
                f = apply(level.waiting.get(k), f, 0);
            }
            level.waiting.clear();
            level.function = level.parts == 0 ? f : apply(level.op, level.function, f);
            level.parts++;
            level.wantsPart = false;
        }
    }

    long result() {
        return result;
    }

    long digest() {
        List<Long> numbers = new ArrayList<>();
        for (int op = 0; op < 10; op++) {
            numbers.add((long) prices[op]);
            numbers.add(allowed[op] ? 1L : 0L);
        }
        numbers.add((long) prices[10]);
        for (boolean isOn : constants) {
            numbers.add(isOn ? 1L : 0L);
        }
        numbers.add((long) row.size());
        for (int e = 0; e < row.size(); e++) {
            numbers.add(function(e));
            for (int what = 0; what < 4; what++) {
                numbers.add((long) entry(e, what));
            }
        }
        numbers.add((long) paper.length());
        for (int k = 0; k < paper.length(); k++) {
            numbers.add((long) paper.charAt(k));
        }
        numbers.add((long) tape.size());
        numbers.add(result);
        long d = 367;
        for (long number : numbers) {
            d = d * 31 + number;
        }
        return d;
    }
}
