import java.util.Arrays;

/** A finder of bit tricks: the cheapest ways to make functions of four bits from x and constants. */
public final class TrickFinder {
    private static final int INPUTS = 16;
    private static final int OPERATIONS = 10;
    private static final int ONE_ARGUMENT_OPERATIONS = 4;
    private static final int MOST_COST = 6;
    private static final int MOST_PRICE = 5;
    private static final int MOST_DEPTH = 20;
    private static final int NONE = -1;
    private static final int OPERATION_OF_X = -1;
    private static final int OPERATION_OF_CONSTANT = -2;
    private static final long X = 0xFEDCBA9876543210L;
    private static final char[] SIGNS = {'~', '-', '<', '>', '&', '|', '^', '+', '-', '*'};

    private final Settings settings;
    private final Row row;
    private final Paper paper;
    private final Tape tape;

    public TrickFinder() {
        settings = new Settings();
        row = new Row();
        paper = new Paper();
        tape = new Tape();
    }

    // ---- operations and constants

    public int allow(int op, boolean isOn) throws IndexOutOfBoundsException {
        if (!isOperation(op)) {
            throw new IndexOutOfBoundsException("there is no such operation");
        }
        settings.isAllowed[op] = isOn;
        return countOn(settings.isAllowed);
    }

    public int setPrice(int op, int price) throws IndexOutOfBoundsException, IllegalArgumentException {
        if (!isOperation(op) && op != OPERATIONS) {
            throw new IndexOutOfBoundsException("there is no such operation");
        }
        int least = op == OPERATIONS ? 0 : 1;
        if (price < least || price > MOST_PRICE) {
            throw new IllegalArgumentException("there is no such price");
        }
        int before = settings.prices[op];
        settings.prices[op] = price;
        return before;
    }

    public int setConstant(int value, boolean isOn) throws IllegalArgumentException {
        if (!isInput(value)) {
            throw new IllegalArgumentException("a constant is 0 to 15");
        }
        settings.isConstantAllowed[value] = isOn;
        return countOn(settings.isConstantAllowed);
    }

    // ---- functions

    public int value(long f, int x) throws IllegalArgumentException {
        if (!isInput(x)) {
            throw new IllegalArgumentException("an input is 0 to 15");
        }
        return Functions.valueAt(f, x);
    }

    public long apply(int op, long f, long g) throws IndexOutOfBoundsException {
        if (!isOperation(op)) {
            throw new IndexOutOfBoundsException("there is no such operation");
        }
        return Functions.made(op, f, g);
    }

    public long compose(long f, long g) {
        return Functions.after(f, g);
    }

    public long inverse(long f) throws IllegalStateException {
        if (Functions.countValues(f) < INPUTS) {
            throw new IllegalStateException("two inputs have the same value");
        }
        return Functions.inverseOf(f);
    }

    public int measure(long f, int what) throws IndexOutOfBoundsException {
        switch (what) {
            case 0:
                return INPUTS - Functions.countDifferences(f, X);
            case 1:
                return Functions.countValues(f);
            case 2:
                return Long.bitCount(f ^ X);
            case 3:
                return Integer.bitCount(Functions.returningInputs(f));
            case 4:
                return Functions.stepsToReturning(f);
            default:
                throw new IndexOutOfBoundsException("there is no such measure");
        }
    }

    public boolean is(long f, int what) throws IndexOutOfBoundsException {
        switch (what) {
            case 0:
                return Functions.isLinear(f);
            case 1:
                return Functions.isRising(f);
            case 2:
                return Functions.after(f, f) == f;
            case 3:
                return Functions.isOfLowerBits(f);
            default:
                throw new IndexOutOfBoundsException("there is no such question");
        }
    }

    // ---- search

    public int search(int budget) throws IllegalArgumentException {
        if (!isCost(budget)) {
            throw new IllegalArgumentException("a budget is 0 to 6");
        }
        row.make(budget, settings);
        return row.count;
    }

    public int entries() {
        return row.count;
    }

    public int ofCost(int cost) throws IllegalArgumentException {
        if (!isCost(cost)) {
            throw new IllegalArgumentException("a cost is 0 to 6");
        }
        return row.countOfCost(cost);
    }

    public long function(int entry) throws IndexOutOfBoundsException {
        if (!row.has(entry)) {
            throw new IndexOutOfBoundsException("there is no such entry");
        }
        return row.functions[entry];
    }

    public int entry(int entry, int what) throws IndexOutOfBoundsException {
        if (!row.has(entry)) {
            throw new IndexOutOfBoundsException("there is no such entry");
        }
        switch (what) {
            case 0:
                return row.costOf(entry);
            case 1:
                return row.operations[entry];
            case 2:
                return row.firsts[entry];
            case 3:
                return row.seconds[entry];
            default:
                throw new IndexOutOfBoundsException("an entry does not tell this");
        }
    }

    public int find(long f) {
        return row.entryWith(f);
    }

    public int fit(long f, int inputs) throws IllegalArgumentException {
        if (inputs < 0 || inputs > 65535) {
            throw new IllegalArgumentException("a set of inputs is 0 to 65535");
        }
        return row.firstAlike(f, Functions.maskOf(inputs));
    }

    public int near(long f) {
        return row.firstNearest(f);
    }

    public int parts(int entry) throws IndexOutOfBoundsException {
        if (!row.has(entry)) {
            throw new IndexOutOfBoundsException("there is no such entry");
        }
        return row.countParts(entry);
    }

    public double meanCost() {
        return row.count == 0 ? 0.0 : (double) row.sumOfCosts() / row.count;
    }

    // ---- formulas

    public int write(int entry) throws IndexOutOfBoundsException {
        if (!row.has(entry)) {
            throw new IndexOutOfBoundsException("there is no such entry");
        }
        paper.length = 0;
        paper.putEntry(row, entry, 0);
        return paper.length;
    }

    public int byteAt(int k) throws IndexOutOfBoundsException {
        if (k < 0 || k >= paper.length) {
            throw new IndexOutOfBoundsException("there is no such place");
        }
        return paper.bytes[k];
    }

    public int feed(int a, int b, int c, int d, int e) throws IllegalStateException {
        if (tape.length + 20 > Tape.MOST_BYTES) {
            throw new IllegalStateException("the tape would be too long");
        }
        tape.append(a);
        tape.append(b);
        tape.append(c);
        tape.append(d);
        tape.append(e);
        return tape.length;
    }

    public int trim(int n) throws IllegalArgumentException {
        if (n < 0 || n > tape.length) {
            throw new IllegalArgumentException("the tape does not have so many bytes");
        }
        tape.length = n;
        return n;
    }

    public int read() {
        return tape.takeFormula();
    }

    public long result() {
        return tape.lastFormula;
    }

    public long digest() {
        long d = settings.addTo(367);
        d = row.addTo(d);
        d = paper.addTo(d);
        d = added(d, tape.length);
        return added(d, tape.lastFormula);
    }

    private static long added(long d, long x) {
        return d * 31 + x;
    }

    private static boolean isOperation(int op) {
        return op >= 0 && op < OPERATIONS;
    }

    private static boolean isInput(int x) {
        return x >= 0 && x < INPUTS;
    }

    private static boolean isCost(int cost) {
        return cost >= 0 && cost <= MOST_COST;
    }

    private static boolean hasTwoArguments(int op) {
        return op >= ONE_ARGUMENT_OPERATIONS && op < OPERATIONS;
    }

    private static int countOn(boolean[] switches) {
        int on = 0;
        for (boolean isOn : switches) {
            on += isOn ? 1 : 0;
        }
        return on;
    }

    /** What a search may use, and what it pays for it. */
    private static final class Settings {
        final int[] prices = new int[OPERATIONS + 1];
        final boolean[] isAllowed = new boolean[OPERATIONS];
        final boolean[] isConstantAllowed = new boolean[INPUTS];

        Settings() {
            Arrays.fill(prices, 1);
            for (int op = 0; op < OPERATIONS - 1; op++) {
                isAllowed[op] = true;
            }
            isConstantAllowed[1] = true;
        }

        int priceOfConstants() {
            return prices[OPERATIONS];
        }

        long addTo(long start) {
            long d = start;
            for (int op = 0; op < OPERATIONS; op++) {
                d = added(d, prices[op]);
                d = added(d, isAllowed[op] ? 1 : 0);
            }
            d = added(d, priceOfConstants());
            for (boolean isOn : isConstantAllowed) {
                d = added(d, isOn ? 1 : 0);
            }
            return d;
        }
    }

    /** Functions of four bits. All sixteen values stand in one long and are reckoned at once. */
    private static final class Functions {
        private static final long ONES = 0x1111111111111111L;
        private static final long LOWER_BITS = 0x7777777777777777L;
        private static final long TOP_BITS = 0x8888888888888888L;
        private static final int ALL_INPUTS = 65535;

        static int valueAt(long f, int x) {
            return (int) (f >>> 4 * x) & 15;
        }

        static long constant(int value) {
            return value * ONES;
        }

        static long made(int op, long f, long g) {
            switch (op) {
                case 0:
                    return ~f;
                case 1:
                    return difference(0, f);
                case 2:
                    return twice(f);
                case 3:
                    return (f >>> 1) & LOWER_BITS;
                case 4:
                    return f & g;
                case 5:
                    return f | g;
                case 6:
                    return f ^ g;
                case 7:
                    return sum(f, g);
                case 8:
                    return difference(f, g);
                default:
                    return product(f, g);
            }
        }

        private static long twice(long f) {
            return (f & LOWER_BITS) << 1;
        }

        // The top bit of each value is added apart, so that no carry gets into the next value.
        private static long sum(long f, long g) {
            return ((f & LOWER_BITS) + (g & LOWER_BITS)) ^ ((f ^ g) & TOP_BITS);
        }

        // The top bit of each value is set first, so that nothing is borrowed from the next value.
        private static long difference(long f, long g) {
            return ((f | TOP_BITS) - (g & LOWER_BITS)) ^ ((f ^ ~g) & TOP_BITS);
        }

        private static long product(long f, long g) {
            long total = 0;
            long shifted = f;
            for (int bit = 0; bit < 4; bit++) {
                long whereSet = ((g >>> bit) & ONES) * 15;
                total = sum(total, shifted & whereSet);
                shifted = twice(shifted);
            }
            return total;
        }

        static long after(long f, long g) {
            long h = 0;
            for (int x = 0; x < INPUTS; x++) {
                h |= (long) valueAt(f, valueAt(g, x)) << 4 * x;
            }
            return h;
        }

        static long inverseOf(long f) {
            long g = 0;
            for (int x = 0; x < INPUTS; x++) {
                g |= (long) x << 4 * valueAt(f, x);
            }
            return g;
        }

        static int countDifferences(long f, long g) {
            long d = f ^ g;
            d |= d >>> 2;
            d |= d >>> 1;
            return Long.bitCount(d & ONES);
        }

        static int countValues(long f) {
            return Integer.bitCount(image(f, ALL_INPUTS));
        }

        private static int image(long f, int inputs) {
            int values = 0;
            for (int x = 0; x < INPUTS; x++) {
                if ((inputs >>> x & 1) == 1) {
                    values |= 1 << valueAt(f, x);
                }
            }
            return values;
        }

        // After as many steps as there are inputs, only those are left that come back.
        static int returningInputs(long f) {
            int inputs = ALL_INPUTS;
            for (int step = 0; step < INPUTS; step++) {
                inputs = image(f, inputs);
            }
            return inputs;
        }

        static int stepsToReturning(long f) {
            int returning = returningInputs(f);
            int inputs = ALL_INPUTS;
            int steps = 0;
            while (steps < INPUTS && inputs != returning) {
                inputs = image(f, inputs);
                steps++;
            }
            return steps;
        }

        static boolean isLinear(long f) {
            for (int a = 0; a < INPUTS; a++) {
                for (int b = 0; b < INPUTS; b++) {
                    if (valueAt(f, a ^ b) != (valueAt(f, a) ^ valueAt(f, b))) {
                        return false;
                    }
                }
            }
            return true;
        }

        static boolean isRising(long f) {
            for (int x = 1; x < INPUTS; x++) {
                if (valueAt(f, x) < valueAt(f, x - 1)) {
                    return false;
                }
            }
            return true;
        }

        static boolean isOfLowerBits(long f) {
            for (int bit = 0; bit < 4; bit++) {
                int bitAndLower = (2 << bit) - 1;
                for (int x = 0; x < INPUTS; x++) {
                    int difference = valueAt(f, x) ^ valueAt(f, x & bitAndLower);
                    if ((difference >>> bit & 1) == 1) {
                        return false;
                    }
                }
            }
            return true;
        }

        static long maskOf(int inputs) {
            long mask = 0;
            for (int x = 0; x < INPUTS; x++) {
                if ((inputs >>> x & 1) == 1) {
                    mask |= 15L << 4 * x;
                }
            }
            return mask;
        }
    }

    /** The row of entries that a search makes, the cheapest first. */
    private static final class Row {
        private static final int MOST_ENTRIES = 2000;
        private static final int SLOTS = 4096;
        // Each of the at most six operations of an entry adds two parts to the entry itself.
        private static final int MOST_PARTS = 1 + 2 * MOST_COST;

        int count;
        final long[] functions = new long[MOST_ENTRIES];
        final int[] operations = new int[MOST_ENTRIES];
        final int[] firsts = new int[MOST_ENTRIES];
        final int[] seconds = new int[MOST_ENTRIES];
        // The entries with the cost c are those from starts[c] to ahead of starts[c + 1].
        private final int[] starts = new int[MOST_COST + 2];
        // A hash table of entries, never more than half full, so that a free slot is near.
        private final int[] slots = new int[SLOTS];
        private final int[] partsFound = new int[MOST_PARTS];

        Row() {
            Arrays.fill(slots, NONE);
        }

        boolean has(int entry) {
            return entry >= 0 && entry < count;
        }

        private boolean isFull() {
            return count >= MOST_ENTRIES;
        }

        void make(int budget, Settings settings) {
            count = 0;
            Arrays.fill(slots, NONE);
            for (int cost = 0; cost < starts.length; cost++) {
                starts[cost] = count;
                if (cost <= budget && cost <= MOST_COST) {
                    makeCost(cost, settings);
                }
            }
        }

        private void makeCost(int cost, Settings settings) {
            if (cost == 0) {
                add(X, OPERATION_OF_X, NONE, NONE);
            }
            if (cost == settings.priceOfConstants()) {
                addConstants(settings);
            }
            for (int op = 0; op < OPERATIONS; op++) {
                int rest = cost - settings.prices[op];
                if (!settings.isAllowed[op] || rest < 0) {
                    continue;
                }
                if (hasTwoArguments(op)) {
                    addOfTwo(op, rest);
                } else {
                    addOfOne(op, rest);
                }
            }
        }

        private void addConstants(Settings settings) {
            for (int value = 0; value < INPUTS; value++) {
                if (settings.isConstantAllowed[value]) {
                    add(Functions.constant(value), OPERATION_OF_CONSTANT, value, NONE);
                }
            }
        }

        private void addOfOne(int op, int rest) {
            int end = starts[rest + 1];
            for (int first = starts[rest]; first < end && !isFull(); first++) {
                add(Functions.made(op, functions[first], 0), op, first, NONE);
            }
        }

        private void addOfTwo(int op, int rest) {
            for (int cost = 0; cost <= rest; cost++) {
                for (int first = starts[cost]; first < starts[cost + 1] && !isFull(); first++) {
                    int end = starts[rest - cost + 1];
                    for (int second = starts[rest - cost]; second < end && !isFull(); second++) {
                        add(Functions.made(op, functions[first], functions[second]), op, first, second);
                    }
                }
            }
        }

        private void add(long f, int op, int first, int second) {
            int slot = slotOf(f);
            if (isFull() || slot == NONE || slots[slot] != NONE) {
                return;
            }
            slots[slot] = count;
            functions[count] = f;
            operations[count] = op;
            firsts[count] = first;
            seconds[count] = second;
            count++;
        }

        /** The slot with this function, or the free one where it belongs. */
        private int slotOf(long f) {
            // The top bits of this product mix all bits of f; the number is odd and else of no meaning.
            int slot = (int) ((f * 0x9E3779B97F4A7C15L) >>> 52);
            for (int step = 0; step < SLOTS; step++) {
                int entry = slots[slot];
                if (entry < 0 || entry >= count || functions[entry] == f) {
                    return slot;
                }
                slot = (slot + 1) % SLOTS;
            }
            return NONE;
        }

        int entryWith(long f) {
            int slot = slotOf(f);
            return slot == NONE ? NONE : slots[slot];
        }

        int firstAlike(long f, long mask) {
            for (int entry = 0; entry < count; entry++) {
                if (((functions[entry] ^ f) & mask) == 0) {
                    return entry;
                }
            }
            return NONE;
        }

        int firstNearest(long f) {
            int nearest = NONE;
            int fewest = INPUTS + 1;
            for (int entry = 0; entry < count; entry++) {
                int differences = Functions.countDifferences(functions[entry], f);
                if (differences < fewest) {
                    fewest = differences;
                    nearest = entry;
                }
            }
            return nearest;
        }

        int countOfCost(int cost) {
            return starts[cost + 1] - starts[cost];
        }

        int costOf(int entry) {
            int cost = 0;
            while (cost < MOST_COST && starts[cost + 1] <= entry) {
                cost++;
            }
            return cost;
        }

        int sumOfCosts() {
            int sum = 0;
            for (int cost = 0; cost <= MOST_COST; cost++) {
                sum += cost * countOfCost(cost);
            }
            return sum;
        }

        int countParts(int entry) {
            int found = withPart(0, entry);
            for (int k = 0; k < found && k < MOST_PARTS; k++) {
                int part = partsFound[k];
                if (operations[part] >= 0) {
                    found = withPart(found, firsts[part]);
                    found = withPart(found, seconds[part]);
                }
            }
            return found;
        }

        /** How many parts are found when this one is too. */
        private int withPart(int found, int part) {
            if (!has(part) || found >= MOST_PARTS) {
                return found;
            }
            for (int k = 0; k < found; k++) {
                if (partsFound[k] == part) {
                    return found;
                }
            }
            partsFound[found] = part;
            return found + 1;
        }

        long addTo(long start) {
            long d = added(start, count);
            for (int entry = 0; entry < count; entry++) {
                d = added(d, functions[entry]);
                d = added(d, costOf(entry));
                d = added(d, operations[entry]);
                d = added(d, firsts[entry]);
                d = added(d, seconds[entry]);
            }
            return d;
        }
    }

    /** The paper on which an entry is written as a formula. */
    private static final class Paper {
        // An entry has at most six operations: six signs, seven constants, five pairs of brackets.
        private static final int MOST_BYTES = 30;

        int length;
        final int[] bytes = new int[MOST_BYTES];

        private void put(int b) {
            if (length < MOST_BYTES) {
                bytes[length] = b;
                length++;
            }
        }

        // Each level has an operation, and each operation costs at least 1: so the cost bounds the depth.
        private void putEntry(Row row, int entry, int depth) {
            if (!row.has(entry) || depth > MOST_COST) {
                return;
            }
            int op = row.operations[entry];
            if (op == OPERATION_OF_X) {
                put('x');
            } else if (op == OPERATION_OF_CONSTANT) {
                putNumber(row.firsts[entry]);
            } else if (hasTwoArguments(op)) {
                putArgument(row, row.firsts[entry], depth + 1);
                put(SIGNS[op]);
                putArgument(row, row.seconds[entry], depth + 1);
            } else if (isOperation(op)) {
                put(SIGNS[op]);
                putArgument(row, row.firsts[entry], depth + 1);
            }
        }

        private void putArgument(Row row, int entry, int depth) {
            boolean isEnclosed = row.has(entry) && hasTwoArguments(row.operations[entry]);
            if (isEnclosed) {
                put('(');
            }
            putEntry(row, entry, depth);
            if (isEnclosed) {
                put(')');
            }
        }

        private void putNumber(int number) {
            if (number >= 10) {
                put('0' + number / 10);
            }
            put('0' + number % 10);
        }

        long addTo(long start) {
            long d = added(start, length);
            for (int k = 0; k < length; k++) {
                d = added(d, bytes[k]);
            }
            return d;
        }
    }

    /** The tape from which a formula is read. */
    private static final class Tape {
        static final int MOST_BYTES = 300;
        private static final int END = -1;

        int length;
        long lastFormula;
        private final int[] bytes = new int[MOST_BYTES];
        // Where the reading stands, and where it found an error.
        private int place;
        private int error;

        void append(int fourBytes) {
            for (int shift = 24; shift >= 0 && length < MOST_BYTES; shift -= 8) {
                bytes[length] = fourBytes >>> shift & 255;
                length++;
            }
        }

        int takeFormula() {
            place = 0;
            error = NONE;
            long f = readFormula(0);
            if (!hasError() && next() != END) {
                failAt(place);
            }
            length = 0;
            if (!hasError()) {
                lastFormula = f;
            }
            return error;
        }

        private boolean hasError() {
            return error != NONE;
        }

        private long failAt(int where) {
            error = where;
            return 0;
        }

        private int here() {
            return place < length && place < MOST_BYTES ? bytes[place] : END;
        }

        /** The next byte that is no blank; the reading stands at it then. */
        private int next() {
            while (place < length && here() == ' ') {
                place++;
            }
            return here();
        }

        private long readFormula(int depth) {
            long f = readPart(depth);
            if (hasError()) {
                return 0;
            }
            int op = operationOf(next(), ONE_ARGUMENT_OPERATIONS, OPERATIONS);
            if (op == NONE) {
                return f;
            }
            place++;
            long g = readPart(depth);
            return hasError() ? 0 : Functions.made(op, f, g);
        }

        private long readPart(int depth) {
            int b = next();
            if (b == 'x') {
                place++;
                return X;
            }
            if (isDigit(b)) {
                return readNumber();
            }
            int op = operationOf(b, 0, ONE_ARGUMENT_OPERATIONS);
            boolean opensBracket = b == '(';
            if ((!opensBracket && op == NONE) || depth >= MOST_DEPTH) {
                return failAt(place);
            }
            place++;
            return opensBracket ? readEnclosed(depth + 1) : Functions.made(op, readPart(depth + 1), 0);
        }

        private long readEnclosed(int depth) {
            long f = readFormula(depth);
            if (hasError()) {
                return 0;
            }
            if (next() != ')') {
                return failAt(place);
            }
            place++;
            return f;
        }

        private long readNumber() {
            int start = place;
            int number = here() - '0';
            place++;
            if (isDigit(here())) {
                number = number * 10 + here() - '0';
                place++;
            }
            return number < INPUTS ? Functions.constant(number) : failAt(start);
        }

        private static boolean isDigit(int b) {
            return b >= '0' && b <= '9';
        }

        /** The operation from one number to ahead of another that has this sign. */
        private static int operationOf(int sign, int from, int end) {
            for (int op = from; op < end && op < OPERATIONS; op++) {
                if (SIGNS[op] == sign) {
                    return op;
                }
            }
            return NONE;
        }
    }
}
