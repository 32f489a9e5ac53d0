import java.util.Arrays;

/**
 * An accelerator for small networks of whole numbers: a machine of three units with queues of their own,
 * programs as words or as texts, and a compiler that makes a program of a network's layers.
 */
public final class TensorForge {
    public static final int NONE = -1;

    private static final int MOST_WORDS = 600;
    private static final int MOST_SIGNS = 1500;

    private final Machine machine;
    private final Run latest;
    private final Text text;
    private final Assembler assembler;
    private final NetworkReader reader;
    private final Compiler compiler;
    private final Line printed;
    // Each has a spare that is filled first and changes places with it only when it is whole,
    // so that a call that fails leaves what there was.
    private Network net;
    private Network spareNet;
    private long[] words;
    private long[] spareWords;
    private int count;

    public TensorForge() {
        net = new Network();
        spareNet = new Network();
        words = new long[MOST_WORDS];
        spareWords = new long[MOST_WORDS];
        count = 0;
        machine = new Machine();
        latest = new Run(machine);
        text = new Text();
        assembler = new Assembler(text);
        reader = new NetworkReader(text, spareNet);
        compiler = new Compiler(spareWords);
        printed = new Line();
    }

    public void side(int t) throws IllegalArgumentException {
        if (t < Machine.LEAST_SIDE || t > Machine.MOST_SIDE) {
            throw new IllegalArgumentException("a side is 2 to 8");
        }
        machine.takeSide(t);
        net.dropLayers();
    }

    public void memory(int at, int v) throws IndexOutOfBoundsException {
        if (at < 0 || at > Machine.MEMORY_SIZE - 4) {
            throw new IndexOutOfBoundsException("four bytes aren't there");
        }
        machine.writeInt(at, v);
    }

    public int look(int what, int k) throws IllegalArgumentException, IndexOutOfBoundsException {
        if (what < 0 || what >= Reaches.SPACES) {
            throw new IllegalArgumentException("there is no such buffer");
        }
        if (k < 0 || k >= Reaches.SIZES[what]) {
            throw new IndexOutOfBoundsException("there is no such place");
        }
        return machine.valueAt(what, k);
    }

    public void word(int i, long v) throws IndexOutOfBoundsException, UnsupportedOperationException {
        if (i < 0 || i > count) {
            throw new IndexOutOfBoundsException("there is no such word");
        }
        if (i >= MOST_WORDS) {
            throw new UnsupportedOperationException("a program has at most 600 words");
        }
        words[i] = v;
        if (i == count) {
            count++;
        }
    }

    public void cut(int n) throws IllegalArgumentException {
        if (n < 0 || n > count) {
            throw new IllegalArgumentException("there are not so many words");
        }
        count = n;
    }

    public long wordOf(int i) throws IndexOutOfBoundsException {
        if (i < 0 || i >= count) {
            throw new IndexOutOfBoundsException("there is no such word");
        }
        return words[i];
    }

    public int length() {
        return count;
    }

    public int field(long word, int which) throws IllegalArgumentException {
        if (which < 0 || which >= Words.FIELDS) {
            throw new IllegalArgumentException("there is no such field");
        }
        return Words.get(word, which);
    }

    public boolean illegal(long word) {
        return machine.forbids(word);
    }

    public int put(int signs) throws IllegalArgumentException, UnsupportedOperationException {
        if (!Text.areSigns(signs)) {
            throw new IllegalArgumentException("a byte is no sign of a text");
        }
        if (!text.hasRoomFor(signs)) {
            throw new UnsupportedOperationException("a text has at most 1500 signs");
        }
        text.append(signs);
        return text.count;
    }

    public void end(int n) throws IllegalArgumentException {
        if (n < 0 || n > text.count) {
            throw new IllegalArgumentException("there are not so many signs");
        }
        text.count = n;
    }

    public int assemble() {
        int fault = assembler.readInto(spareWords);
        if (fault == NONE) {
            takeSpareWords(assembler.made);
        }
        return fault;
    }

    public int listing(int i, int k) throws IndexOutOfBoundsException {
        if (i < 0 || i >= count || k < 0) {
            throw new IndexOutOfBoundsException("there is no such word or sign");
        }
        printed.writeInstruction(words[i]);
        return printed.signAt(k);
    }

    public int run() {
        latest.follow(words, count);
        return latest.told[Run.WHY];
    }

    public int stopped(int what) throws IllegalArgumentException {
        if (what < 0 || what >= Run.TOLD) {
            throw new IllegalArgumentException("nothing such is told of a run");
        }
        return latest.told[what];
    }

    public int instruction(int i, int what)
            throws IllegalStateException, IndexOutOfBoundsException, IllegalArgumentException {
        needRun();
        if (i < 0 || i >= latest.count) {
            throw new IndexOutOfBoundsException("the program had no such word");
        }
        if (what < 0 || what > 2) {
            throw new IllegalArgumentException("nothing such is told of an instruction");
        }
        if (what == 0) {
            return Words.unitOf(latest.words[i]);
        }
        return what == 1 ? latest.began[i] : latest.ended[i];
    }

    public void input(int height, int width, int channels) throws IllegalArgumentException {
        if (!Network.inputFits(height, width, channels)) {
            throw new IllegalArgumentException("an input can't have this form");
        }
        net.beginWith(height, width, channels);
    }

    public int convolution(int tensor, int kernel, int outputs, int how, int shift, int address)
            throws IndexOutOfBoundsException, IllegalArgumentException, UnsupportedOperationException {
        Layer draft = net.draft();
        draft.reset(Layer.CONVOLUTION, tensor, tensor);
        draft.takeKernel(kernel / 10, kernel % 10);
        draft.step = how / 10;
        draft.edge = how % 10;
        draft.takeNarrowing(shift);
        draft.channels = outputs;
        draft.address = address;
        return added();
    }

    public int pool(int tensor, int kernel, int step)
            throws IndexOutOfBoundsException, IllegalArgumentException, UnsupportedOperationException {
        Layer draft = net.draft();
        draft.reset(Layer.POOL, tensor, tensor);
        draft.takeKernel(kernel / 10, kernel % 10);
        draft.step = step;
        return added();
    }

    public int addition(int one, int two, int shift)
            throws IndexOutOfBoundsException, IllegalArgumentException, UnsupportedOperationException {
        Layer draft = net.draft();
        draft.reset(Layer.ADDITION, one, two);
        draft.takeNarrowing(shift);
        return added();
    }

    public int form(int tensor, int what) throws IndexOutOfBoundsException, IllegalArgumentException {
        if (!net.has(tensor)) {
            throw new IndexOutOfBoundsException("there is no such tensor");
        }
        if (what < 0 || what > 3) {
            throw new IllegalArgumentException("nothing such is told of a tensor");
        }
        Layer layer = net.layers[tensor];
        if (what == 3) {
            return layer.begin;
        }
        if (what == 2) {
            return layer.channels;
        }
        return what == 1 ? layer.width : layer.height;
    }

    public int compile() throws UnsupportedOperationException {
        compiler.open(machine.side, spareWords);
        for (int k = 1; k < net.tensors; k++) {
            compiler.makeLayer(net, k);
        }
        if (compiler.made > MOST_WORDS) {
            throw new UnsupportedOperationException("the network has no room in a program");
        }
        takeSpareWords(compiler.made);
        return count;
    }

    public void reckon() {
        net.settle(machine.memory);
    }

    public int network() {
        int fault = reader.readInto(spareNet);
        if (fault == NONE) {
            Network old = net;
            net = spareNet;
            spareNet = old;
        }
        return fault;
    }

    public int networkSign(int line, int k) throws IndexOutOfBoundsException {
        if (!net.has(line) || k < 0) {
            throw new IndexOutOfBoundsException("there is no such line or sign");
        }
        printed.writeLayer(net.layers[line]);
        return printed.signAt(k);
    }

    public int place() throws UnsupportedOperationException {
        if (!net.findSpots()) {
            throw new UnsupportedOperationException("a tensor would end beyond 2048");
        }
        net.takeSpots();
        return net.endOfAll();
    }

    public int under(int unit, int cycle) throws IllegalStateException, IllegalArgumentException {
        needRun();
        needUnitAndCycle(unit, cycle);
        return latest.underWayAt(unit, cycle);
    }

    public int waits(int unit, int cycle) throws IllegalStateException, IllegalArgumentException {
        needRun();
        needUnitAndCycle(unit, cycle);
        return latest.missingAt(unit, cycle);
    }

    private void takeSpareWords(int made) {
        long[] old = words;
        words = spareWords;
        spareWords = old;
        count = made;
    }

    private int added() {
        int fault = net.offer();
        if (fault == Network.NO_TENSOR) {
            throw new IndexOutOfBoundsException("there is no such tensor");
        }
        if (fault == Network.WRONG_NUMBER) {
            throw new IllegalArgumentException("a layer can't be so");
        }
        if (fault == Network.NO_ROOM) {
            throw new UnsupportedOperationException("there is no room for the layer");
        }
        return net.tensors - 1;
    }

    private void needRun() {
        int why = latest.told[Run.WHY];
        if (why == 0 || why == Run.ILLEGAL) {
            throw new IllegalStateException("no program has run");
        }
    }

    private void needUnitAndCycle(int unit, int cycle) {
        if (unit < 0 || unit >= Run.UNITS || cycle < 0) {
            throw new IllegalArgumentException("there is no such unit or cycle");
        }
    }

    /** Words as instructions: their fields, numbered as field() numbers them, and their kinds. */
    private static final class Words {
        static final int FIELDS = 12;
        static final int KIND = 0;
        static final int POP_BEFORE = 1;
        static final int POP_BEHIND = 2;
        static final int PUSH_BEFORE = 3;
        static final int PUSH_BEHIND = 4;
        static final int ADDRESS = 5;
        static final int ROWS = 6;
        static final int COLUMNS = 7;
        static final int A = 8;
        static final int B = 9;
        static final int STRIDE = 10;
        static final int N = 11;

        static final int KINDS = 9;
        static final int LOAD_CELLS = 1;
        static final int LOAD_WEIGHTS = 2;
        static final int CLEAR_CELLS = 3;
        static final int LOAD_SUMS = 4;
        static final int MULTIPLY = 5;
        static final int COMBINE = 6;
        static final int NARROW = 7;
        static final int STORE = 8;
        static final int WAIT = 9;

        private static final int[] LOWEST_BIT = {0, 4, 5, 6, 7, 8, 20, 26, 31, 40, 49, 59};
        private static final int[] MOST = {15, 1, 1, 1, 1, 4095, 63, 31, 511, 511, 1023, 31};
        // For each kind a bit for each field from ADDRESS on that the kind names.
        private static final int[] NAMED =
                {0, 0x5E0, 0x5E0, 0x1C0, 0x5E0, 0xFC0, 0xBC0, 0xBC0, 0x5E0, 0x800};

        private Words() {
        }

        static int get(long word, int which) {
            if (which < 0 || which >= FIELDS) {
                return 0;
            }
            return (int) (word >>> LOWEST_BIT[which]) & MOST[which];
        }

        static boolean has(long word, int flag) {
            return get(word, flag) != 0;
        }

        static long bits(int which, int value) {
            if (which < 0 || which >= FIELDS) {
                return 0;
            }
            return (long) (value & MOST[which]) << LOWEST_BIT[which];
        }

        static long flag(int which) {
            return bits(which, 1);
        }

        static long shaped(int kind, int rows, int columns) {
            return (long) kind | (long) rows << LOWEST_BIT[ROWS] | (long) columns << LOWEST_BIT[COLUMNS];
        }

        static int most(int which) {
            return which < 0 || which >= FIELDS ? 0 : MOST[which];
        }

        static boolean isKind(int kind) {
            return kind >= 1 && kind <= KINDS;
        }

        static boolean hasStrangeField(long word) {
            int kind = get(word, KIND);
            if (!isKind(kind)) {
                return true;
            }
            for (int which = ADDRESS; which < FIELDS; which++) {
                if ((NAMED[kind] >> which & 1) == 0 && has(word, which)) {
                    return true;
                }
            }
            return false;
        }

        static int unitOf(long word) {
            int kind = get(word, KIND);
            if (kind == WAIT) {
                return get(word, N);
            }
            if (kind == STORE) {
                return 2;
            }
            return kind >= MULTIPLY ? 1 : 0;
        }

        static int cyclesOf(long word, int side) {
            int kind = get(word, KIND);
            int rows = get(word, ROWS);
            if (kind == WAIT) {
                return 1;
            }
            if (kind == MULTIPLY) {
                return rows + 2 * side - 2;
            }
            int cells = rows * get(word, COLUMNS);
            return kind == LOAD_SUMS ? 4 * cells : cells;
        }

        static String nameOf(int kind) {
            switch (kind) {
                case LOAD_CELLS:
                    return "cells";
                case LOAD_WEIGHTS:
                    return "weights";
                case CLEAR_CELLS:
                    return "clear";
                case LOAD_SUMS:
                    return "sums";
                case MULTIPLY:
                    return "multiply";
                case COMBINE:
                    return "combine";
                case NARROW:
                    return "narrow";
                case STORE:
                    return "store";
                case WAIT:
                    return "wait";
                default:
                    return "?";
            }
        }
    }

    /** From which to which place an instruction reads and writes in the memory and in each buffer. */
    private static final class Reaches {
        static final int SPACES = 5;
        static final int MEMORY = 0;
        static final int CELLS = 1;
        static final int WEIGHTS = 2;
        static final int SUMS = 3;
        static final int RESULTS = 4;
        static final int[] SIZES = {4096, 512, 512, 256, 256};

        // A reach that ends ahead of its beginning is none.
        private final int[] readFrom;
        private final int[] readTo;
        private final int[] writeFrom;
        private final int[] writeTo;

        Reaches() {
            readFrom = new int[SPACES];
            readTo = new int[SPACES];
            writeFrom = new int[SPACES];
            writeTo = new int[SPACES];
        }

        void take(long word, int side) {
            forget();
            int kind = Words.get(word, Words.KIND);
            int address = Words.get(word, Words.ADDRESS);
            int lastRow = Words.get(word, Words.ROWS) - 1;
            int lastColumn = Words.get(word, Words.COLUMNS) - 1;
            int stride = Words.get(word, Words.STRIDE);
            int a = Words.get(word, Words.A);
            int inBuffer = lastRow * side + lastColumn;
            int inMemory = lastRow * stride + lastColumn;
            switch (kind) {
                case Words.LOAD_CELLS:
                    reads(MEMORY, address, inMemory);
                    writes(CELLS, a, inBuffer);
                    break;
                case Words.LOAD_WEIGHTS:
                    reads(MEMORY, address, inMemory);
                    writes(WEIGHTS, a, inBuffer);
                    break;
                case Words.CLEAR_CELLS:
                    writes(CELLS, a, inBuffer);
                    break;
                case Words.LOAD_SUMS:
                    reads(MEMORY, address, lastRow * stride + 4 * lastColumn + 3);
                    writes(SUMS, a, inBuffer);
                    break;
                case Words.STORE:
                    reads(RESULTS, a, inBuffer);
                    writes(MEMORY, address, inMemory);
                    break;
                default:
                    takeWork(word, side);
                    break;
            }
        }

        boolean areThere() {
            for (int space = 0; space < SPACES; space++) {
                if (readTo[space] >= SIZES[space] || writeTo[space] >= SIZES[space]) {
                    return false;
                }
            }
            return true;
        }

        boolean raceWith(Reaches other) {
            for (int space = 0; space < SPACES; space++) {
                if (meet(writeFrom[space], writeTo[space], other.writeFrom[space], other.writeTo[space])
                        || meet(writeFrom[space], writeTo[space], other.readFrom[space], other.readTo[space])
                        || meet(readFrom[space], readTo[space], other.writeFrom[space], other.writeTo[space])) {
                    return true;
                }
            }
            return false;
        }

        private void takeWork(long word, int side) {
            int kind = Words.get(word, Words.KIND);
            int lastRow = Words.get(word, Words.ROWS) - 1;
            int lastColumn = Words.get(word, Words.COLUMNS) - 1;
            int a = Words.get(word, Words.A);
            int b = Words.get(word, Words.B);
            int n = Words.get(word, Words.N);
            int inBuffer = lastRow * side + lastColumn;
            if (kind == Words.MULTIPLY) {
                int deepest = n / 2 - 1;
                reads(CELLS, a, lastRow * side + deepest);
                reads(WEIGHTS, Words.get(word, Words.STRIDE), deepest * side + lastColumn);
                workOnSums(b, inBuffer, (n & 1) == 1);
            } else if (kind == Words.COMBINE) {
                reads(CELLS, a, inBuffer);
                workOnSums(b, inBuffer, n > 0);
            } else if (kind == Words.NARROW) {
                reads(SUMS, a, inBuffer);
                writes(RESULTS, b, inBuffer);
            }
        }

        private void workOnSums(int from, int further, boolean oldOnesCount) {
            if (oldOnesCount) {
                reads(SUMS, from, further);
            }
            writes(SUMS, from, further);
        }

        private void forget() {
            Arrays.fill(readFrom, 0);
            Arrays.fill(readTo, NONE);
            Arrays.fill(writeFrom, 0);
            Arrays.fill(writeTo, NONE);
        }

        private void reads(int space, int from, int further) {
            if (space >= 0 && space < SPACES) {
                readFrom[space] = from;
                readTo[space] = from + further;
            }
        }

        private void writes(int space, int from, int further) {
            if (space >= 0 && space < SPACES) {
                writeFrom[space] = from;
                writeTo[space] = from + further;
            }
        }

        private static boolean meet(int from, int to, int otherFrom, int otherTo) {
            return from <= to && otherFrom <= otherTo && from <= otherTo && otherFrom <= to;
        }
    }

    /** The memory, the buffers, and what instructions do to them. */
    private static final class Machine {
        static final int LEAST_SIDE = 2;
        static final int MOST_SIDE = 8;
        static final int MEMORY_SIZE = 4096;

        final byte[] memory;
        private final byte[] cells;
        private final byte[] weights;
        private final int[] sums;
        private final byte[] results;
        private final Reaches probe;
        int side;
        // The fields of the instruction that is done.
        private int address;
        private int rows;
        private int columns;
        private int a;
        private int b;
        private int stride;
        private int n;

        Machine() {
            memory = new byte[Reaches.SIZES[Reaches.MEMORY]];
            cells = new byte[Reaches.SIZES[Reaches.CELLS]];
            weights = new byte[Reaches.SIZES[Reaches.WEIGHTS]];
            sums = new int[Reaches.SIZES[Reaches.SUMS]];
            results = new byte[Reaches.SIZES[Reaches.RESULTS]];
            probe = new Reaches();
            side = LEAST_SIDE;
        }

        void takeSide(int t) {
            side = t;
            Arrays.fill(cells, (byte) 0);
            Arrays.fill(weights, (byte) 0);
            Arrays.fill(sums, 0);
            Arrays.fill(results, (byte) 0);
        }

        void writeInt(int at, int v) {
            for (int k = 0; k < 4; k++) {
                if (at + k >= 0 && at + k < memory.length) {
                    memory[at + k] = (byte) (v >> 8 * k);
                }
            }
        }

        static int intAt(byte[] bytes, int at) {
            if (at < 0 || at > bytes.length - 4) {
                return 0;
            }
            return bytes[at] & 255 | (bytes[at + 1] & 255) << 8 | (bytes[at + 2] & 255) << 16 | bytes[at + 3] << 24;
        }

        int valueAt(int space, int k) {
            if (k < 0) {
                return 0;
            }
            switch (space) {
                case Reaches.MEMORY:
                    return k < memory.length ? memory[k] : 0;
                case Reaches.CELLS:
                    return k < cells.length ? cells[k] : 0;
                case Reaches.WEIGHTS:
                    return k < weights.length ? weights[k] : 0;
                case Reaches.SUMS:
                    return k < sums.length ? sums[k] : 0;
                case Reaches.RESULTS:
                    return k < results.length ? results[k] : 0;
                default:
                    return 0;
            }
        }

        boolean forbids(long word) {
            if (Words.hasStrangeField(word) || !shapeFits(word) || !numberFits(word) || !tokensFit(word)) {
                return true;
            }
            probe.take(word, side);
            return !probe.areThere();
        }

        private boolean shapeFits(long word) {
            if (Words.get(word, Words.KIND) == Words.WAIT) {
                return true;
            }
            int columns = Words.get(word, Words.COLUMNS);
            return Words.get(word, Words.ROWS) > 0 && columns > 0 && columns <= side;
        }

        private boolean numberFits(long word) {
            int n = Words.get(word, Words.N);
            switch (Words.get(word, Words.KIND)) {
                case Words.MULTIPLY:
                    return n / 2 > 0 && n / 2 <= side;
                case Words.COMBINE:
                case Words.WAIT:
                    return n <= 2;
                default:
                    return true;
            }
        }

        private static boolean tokensFit(long word) {
            int unit = Words.unitOf(word);
            if (unit == 0) {
                return !Words.has(word, Words.POP_BEFORE) && !Words.has(word, Words.PUSH_BEFORE);
            }
            return unit != 2 || !Words.has(word, Words.POP_BEHIND) && !Words.has(word, Words.PUSH_BEHIND);
        }

        /**
         * Does an instruction that isn't forbidden, so that every place it names is there. It does all at
         * once, as what else is under way can't touch the same places without a race.
         */
        void perform(long word) {
            decode(word);
            switch (Words.get(word, Words.KIND)) {
                case Words.LOAD_CELLS:
                    loadBytes(cells);
                    break;
                case Words.LOAD_WEIGHTS:
                    loadBytes(weights);
                    break;
                case Words.CLEAR_CELLS:
                    clearCells();
                    break;
                case Words.LOAD_SUMS:
                    loadSums();
                    break;
                case Words.MULTIPLY:
                    multiply();
                    break;
                case Words.COMBINE:
                    combine();
                    break;
                case Words.NARROW:
                    narrow();
                    break;
                case Words.STORE:
                    store();
                    break;
                default:
                    break;
            }
        }

        private void decode(long word) {
            address = Words.get(word, Words.ADDRESS);
            rows = Words.get(word, Words.ROWS);
            columns = Words.get(word, Words.COLUMNS);
            a = Words.get(word, Words.A);
            b = Words.get(word, Words.B);
            stride = Words.get(word, Words.STRIDE);
            n = Words.get(word, Words.N);
        }

        private void loadBytes(byte[] buffer) {
            for (int r = 0; r < rows; r++) {
                for (int c = 0; c < columns; c++) {
                    buffer[a + r * side + c] = memory[address + r * stride + c];
                }
            }
        }

        private void clearCells() {
            for (int r = 0; r < rows; r++) {
                for (int c = 0; c < columns; c++) {
                    cells[a + r * side + c] = 0;
                }
            }
        }

        private void loadSums() {
            for (int r = 0; r < rows; r++) {
                for (int c = 0; c < columns; c++) {
                    sums[a + r * side + c] = intAt(memory, address + r * stride + 4 * c);
                }
            }
        }

        private void multiply() {
            int depth = n / 2;
            for (int r = 0; r < rows; r++) {
                for (int c = 0; c < columns; c++) {
                    int at = b + r * side + c;
                    int sum = (n & 1) == 1 ? sums[at] : 0;
                    for (int k = 0; k < depth; k++) {
                        sum += cells[a + r * side + k] * weights[stride + k * side + c];
                    }
                    sums[at] = sum;
                }
            }
        }

        private void combine() {
            for (int r = 0; r < rows; r++) {
                for (int c = 0; c < columns; c++) {
                    int at = b + r * side + c;
                    int cell = cells[a + r * side + c];
                    if (n == 1) {
                        sums[at] += cell;
                    } else {
                        sums[at] = n == 2 ? Math.max(sums[at], cell) : cell;
                    }
                }
            }
        }

        private void narrow() {
            for (int r = 0; r < rows; r++) {
                for (int c = 0; c < columns; c++) {
                    results[b + r * side + c] = narrowed(sums[a + r * side + c], n);
                }
            }
        }

        private void store() {
            for (int r = 0; r < rows; r++) {
                for (int c = 0; c < columns; c++) {
                    memory[address + r * stride + c] = results[a + r * side + c];
                }
            }
        }

        static byte narrowed(int sum, int n) {
            int shift = n & 15;
            // A long, for the half that is added must not wrap.
            long value = sum;
            if (shift > 0) {
                value = (value + (1L << (shift - 1))) >> shift;
            }
            value = Math.max(-128L, Math.min(127L, value));
            if (n >= 16 && value < 0) {
                value = 0;
            }
            return (byte) value;
        }
    }

    /** The latest run: it runs a program and keeps what is told of that. */
    private static final class Run {
        static final int UNITS = 3;
        static final int DONE = 1;
        static final int ILLEGAL = 2;
        static final int RACE = 3;
        static final int STUCK = 4;
        static final int TOLD = 10;
        static final int WHY = 0;
        private static final int WHICH = 1;
        private static final int CYCLE = 2;
        private static final int WORKED = 3;
        // Tokens of four sorts from here on: pushed by unit 0 behind, 1 before, 1 behind, 2 before.
        private static final int TOKENS = 6;
        // Far behind the end of any run.
        private static final int LAST_CYCLE = 2000000000;

        private final Machine machine;
        final int[] told;
        final long[] words;
        final int[] began;
        final int[] ended;
        private final int[] next;
        private final int[] underWay;
        private final Reaches[] reaches;
        private Reaches candidate;
        int count;

        Run(Machine machine) {
            this.machine = machine;
            told = new int[TOLD];
            words = new long[MOST_WORDS];
            began = new int[MOST_WORDS];
            ended = new int[MOST_WORDS];
            next = new int[UNITS];
            underWay = new int[UNITS];
            reaches = new Reaches[UNITS];
            for (int unit = 0; unit < UNITS; unit++) {
                reaches[unit] = new Reaches();
            }
            candidate = new Reaches();
            count = 0;
        }

        void follow(long[] program, int length) {
            prepare(program, length);
            int wrong = firstForbidden();
            if (wrong != NONE) {
                tell(ILLEGAL, wrong, 0);
                return;
            }
            int cycle = 0;
            // From cycle to cycle at which something ends: each turn but the first ends one at least.
            for (int turn = 0; turn <= MOST_WORDS + 1; turn++) {
                endUpTo(cycle);
                int racer = beginAt(cycle);
                if (racer != NONE) {
                    tell(RACE, racer, cycle);
                    break;
                }
                int soonest = soonestEnd();
                if (soonest == NONE) {
                    int left = leastNext();
                    tell(left == NONE ? DONE : STUCK, left, cycle);
                    break;
                }
                cycle = soonest;
            }
            endUpTo(LAST_CYCLE);
        }

        private void prepare(long[] program, int length) {
            count = Math.max(0, Math.min(length, Math.min(program.length, words.length)));
            System.arraycopy(program, 0, words, 0, count);
            Arrays.fill(told, 0);
            Arrays.fill(began, NONE);
            Arrays.fill(ended, NONE);
            Arrays.fill(underWay, NONE);
            for (int unit = 0; unit < UNITS; unit++) {
                next[unit] = nextOf(unit, 0);
            }
        }

        private int firstForbidden() {
            for (int i = 0; i < count; i++) {
                if (machine.forbids(words[i])) {
                    return i;
                }
            }
            return NONE;
        }

        private void tell(int why, int which, int cycle) {
            told[WHY] = why;
            told[WHICH] = which;
            told[CYCLE] = cycle;
        }

        private int nextOf(int unit, int from) {
            for (int i = from; i < count; i++) {
                if (Words.unitOf(words[i]) == unit) {
                    return i;
                }
            }
            return NONE;
        }

        private void endUpTo(int cycle) {
            for (int unit = 0; unit < UNITS; unit++) {
                int i = underWay[unit];
                if (i >= 0 && i < count && ended[i] <= cycle) {
                    pushTokens(unit, words[i]);
                    underWay[unit] = NONE;
                }
            }
        }

        private int beginAt(int cycle) {
            for (int unit = 0; unit < UNITS; unit++) {
                int i = next[unit];
                if (i >= 0 && i < count && underWay[unit] == NONE && hasTokens(unit, words[i])) {
                    candidate.take(words[i], machine.side);
                    if (races()) {
                        return i;
                    }
                    begin(unit, i, cycle);
                }
            }
            return NONE;
        }

        private boolean races() {
            for (int unit = 0; unit < UNITS; unit++) {
                if (underWay[unit] != NONE && candidate.raceWith(reaches[unit])) {
                    return true;
                }
            }
            return false;
        }

        private void begin(int unit, int i, int cycle) {
            int cycles = Words.cyclesOf(words[i], machine.side);
            popTokens(unit, words[i]);
            began[i] = cycle;
            ended[i] = cycle + cycles;
            told[WORKED + unit] += cycles;
            underWay[unit] = i;
            next[unit] = nextOf(unit, i + 1);
            Reaches old = reaches[unit];
            reaches[unit] = candidate;
            candidate = old;
            machine.perform(words[i]);
        }

        private int soonestEnd() {
            int soonest = NONE;
            for (int unit = 0; unit < UNITS; unit++) {
                int i = underWay[unit];
                if (i >= 0 && i < count && (soonest == NONE || ended[i] < soonest)) {
                    soonest = ended[i];
                }
            }
            return soonest;
        }

        private int leastNext() {
            int least = NONE;
            for (int unit = 0; unit < UNITS; unit++) {
                if (next[unit] != NONE && (least == NONE || next[unit] < least)) {
                    least = next[unit];
                }
            }
            return least;
        }

        // The sort of tokens that a unit pops before is pushed behind by the unit before, and so on.
        private static int poppedBefore(int unit) {
            return 2 * (unit - 1);
        }

        private static int poppedBehind(int unit) {
            return 2 * unit + 1;
        }

        private static int pushedBefore(int unit) {
            return 2 * unit - 1;
        }

        private static int pushedBehind(int unit) {
            return 2 * unit;
        }

        private int tokens(int sort) {
            return sort < 0 || TOKENS + sort >= TOLD ? 0 : told[TOKENS + sort];
        }

        private void addTokens(int sort, int more) {
            if (sort >= 0 && TOKENS + sort < TOLD) {
                told[TOKENS + sort] += more;
            }
        }

        private boolean hasTokens(int unit, long word) {
            return (!Words.has(word, Words.POP_BEFORE) || tokens(poppedBefore(unit)) > 0)
                    && (!Words.has(word, Words.POP_BEHIND) || tokens(poppedBehind(unit)) > 0);
        }

        private void popTokens(int unit, long word) {
            addTokens(poppedBefore(unit), -Words.get(word, Words.POP_BEFORE));
            addTokens(poppedBehind(unit), -Words.get(word, Words.POP_BEHIND));
        }

        private void pushTokens(int unit, long word) {
            addTokens(pushedBefore(unit), Words.get(word, Words.PUSH_BEFORE));
            addTokens(pushedBehind(unit), Words.get(word, Words.PUSH_BEHIND));
        }

        private boolean hadBegun(int i, int cycle) {
            return began[i] != NONE && began[i] <= cycle;
        }

        private boolean hadEnded(int i, int cycle) {
            return ended[i] != NONE && ended[i] <= cycle;
        }

        int underWayAt(int unit, int cycle) {
            for (int i = 0; i < count; i++) {
                if (Words.unitOf(words[i]) == unit && hadBegun(i, cycle) && !hadEnded(i, cycle)) {
                    return i;
                }
            }
            return NONE;
        }

        int missingAt(int unit, int cycle) {
            int i = firstNotBegun(unit, cycle);
            if (i == NONE || underWayAt(unit, cycle) != NONE) {
                return 0;
            }
            int missing = 0;
            if (Words.has(words[i], Words.POP_BEFORE)
                    && pushesUpTo(unit - 1, Words.PUSH_BEHIND, cycle) <= popsUpTo(unit, Words.POP_BEFORE, cycle)) {
                missing += 1;
            }
            if (Words.has(words[i], Words.POP_BEHIND)
                    && pushesUpTo(unit + 1, Words.PUSH_BEFORE, cycle) <= popsUpTo(unit, Words.POP_BEHIND, cycle)) {
                missing += 2;
            }
            return missing;
        }

        private int firstNotBegun(int unit, int cycle) {
            for (int i = 0; i < count; i++) {
                if (Words.unitOf(words[i]) == unit && !hadBegun(i, cycle)) {
                    return i;
                }
            }
            return NONE;
        }

        private int pushesUpTo(int unit, int flag, int cycle) {
            int pushes = 0;
            for (int i = 0; i < count; i++) {
                if (Words.unitOf(words[i]) == unit && hadEnded(i, cycle)) {
                    pushes += Words.get(words[i], flag);
                }
            }
            return pushes;
        }

        private int popsUpTo(int unit, int flag, int cycle) {
            int pops = 0;
            for (int i = 0; i < count; i++) {
                if (Words.unitOf(words[i]) == unit && hadBegun(i, cycle)) {
                    pops += Words.get(words[i], flag);
                }
            }
            return pops;
        }
    }

    /** The text, and its lines and tokens as they are read. */
    private static final class Text {
        static final int NOTHING = 0;
        static final int WORD = 1;
        static final int NUMBER = 2;
        static final int WRONG = 3;
        private static final int MOST_DIGITS = 4;

        private final char[] signs;
        int count;
        private int lineEnd;
        private int at;
        // The latest token: its sort, where it begins, and what it is worth as a number.
        int sort;
        int from;
        int number;

        Text() {
            signs = new char[MOST_SIGNS];
            count = 0;
            rewind();
        }

        static boolean areSigns(int four) {
            for (int k = 0; k < 4; k++) {
                int sign = four >>> 8 * k & 255;
                if (sign != 0 && sign != '\n' && (sign < ' ' || sign > '~')) {
                    return false;
                }
            }
            return true;
        }

        boolean hasRoomFor(int four) {
            int more = 0;
            for (int k = 0; k < 4; k++) {
                if ((four >>> 8 * k & 255) != 0) {
                    more++;
                }
            }
            return count + more <= MOST_SIGNS;
        }

        void append(int four) {
            for (int k = 0; k < 4; k++) {
                int sign = four >>> 8 * k & 255;
                if (sign != 0 && count < signs.length) {
                    signs[count] = (char) sign;
                    count++;
                }
            }
        }

        void rewind() {
            lineEnd = -1;
            at = 0;
            sort = NOTHING;
            from = 0;
            number = 0;
        }

        /** Goes to the next line, if there is one: behind the last line end there is one more, maybe empty. */
        boolean nextLine() {
            if (lineEnd >= count) {
                return false;
            }
            at = lineEnd + 1;
            lineEnd = at;
            while (lineEnd < count && signs[lineEnd] != '\n') {
                lineEnd++;
            }
            return true;
        }

        void nextToken() {
            while (at < lineEnd && signs[at] == ' ') {
                at++;
            }
            from = at;
            number = 0;
            if (at >= lineEnd || signs[at] == '#') {
                sort = NOTHING;
            } else if (signs[at] >= 'a' && signs[at] <= 'z') {
                while (at < lineEnd && signs[at] >= 'a' && signs[at] <= 'z') {
                    at++;
                }
                sort = WORD;
            } else {
                while (at < lineEnd && signs[at] >= '0' && signs[at] <= '9') {
                    number = 10 * number + signs[at] - '0';
                    at++;
                }
                sort = at > from && at - from <= MOST_DIGITS ? NUMBER : WRONG;
            }
        }

        int tokenSize() {
            return at - from;
        }

        boolean isWord(String due) {
            if (sort != WORD || at - from != due.length()) {
                return false;
            }
            for (int k = 0; k < due.length(); k++) {
                if (signs[from + k] != due.charAt(k)) {
                    return false;
                }
            }
            return true;
        }

        boolean nextIsWord(String due) {
            nextToken();
            return isWord(due);
        }

        boolean nextIsNumber() {
            nextToken();
            return sort == NUMBER;
        }

        /** Whether the latest token has the same signs as the part of the text of this size from there on. */
        boolean isSameAs(int otherFrom, int size) {
            if (at - from != size || otherFrom < 0 || otherFrom + size > count) {
                return false;
            }
            for (int k = 0; k < size; k++) {
                if (signs[from + k] != signs[otherFrom + k]) {
                    return false;
                }
            }
            return true;
        }
    }

    /** Makes words of the text. */
    private static final class Assembler {
        private final Text text;
        int made;
        private long built;
        private int seen;

        Assembler(Text text) {
            this.text = text;
            made = 0;
            built = 0;
            seen = 0;
        }

        int readInto(long[] words) {
            made = 0;
            text.rewind();
            for (int row = 0; row <= MOST_SIGNS && text.nextLine(); row++) {
                text.nextToken();
                if (text.sort != Text.NOTHING) {
                    if (made >= MOST_WORDS || made >= words.length || !readInstruction()) {
                        return row;
                    }
                    words[made] = built;
                    made++;
                }
            }
            return NONE;
        }

        private boolean readInstruction() {
            int kind = kindTold();
            if (kind == NONE) {
                return false;
            }
            built = Words.bits(Words.KIND, kind);
            seen = 0;
            for (int part = 0; part <= MOST_SIGNS; part++) {
                text.nextToken();
                if (text.sort == Text.NOTHING) {
                    return true;
                }
                if (!readPart()) {
                    return false;
                }
            }
            return false;
        }

        private int kindTold() {
            for (int kind = 1; kind <= Words.KINDS; kind++) {
                if (text.isWord(Words.nameOf(kind))) {
                    return kind;
                }
            }
            return NONE;
        }

        private boolean readPart() {
            if (text.isWord("at")) {
                return readNumber(Words.ADDRESS);
            }
            if (text.isWord("by")) {
                return readNumber(Words.ROWS) && text.nextIsWord("x") && readNumber(Words.COLUMNS);
            }
            if (text.isWord("a")) {
                return readNumber(Words.A);
            }
            if (text.isWord("b")) {
                return readNumber(Words.B);
            }
            if (text.isWord("step")) {
                return readNumber(Words.STRIDE);
            }
            if (text.isWord("n")) {
                return readNumber(Words.N);
            }
            if (text.isWord("pop")) {
                return readNeighbour(Words.POP_BEFORE, Words.POP_BEHIND);
            }
            return text.isWord("push") && readNeighbour(Words.PUSH_BEFORE, Words.PUSH_BEHIND);
        }

        private boolean readNumber(int which) {
            return text.nextIsNumber() && text.number <= Words.most(which) && setOnce(which, text.number);
        }

        private boolean readNeighbour(int before, int behind) {
            if (text.nextIsWord("before")) {
                return setOnce(before, 1);
            }
            return text.isWord("behind") && setOnce(behind, 1);
        }

        private boolean setOnce(int which, int value) {
            if ((seen >> which & 1) == 1) {
                return false;
            }
            seen |= 1 << which;
            built |= Words.bits(which, value);
            return true;
        }
    }

    /** A tensor with the layer that makes it, or the input, which is made by none. */
    private static final class Layer {
        static final int INPUT = 0;
        static final int CONVOLUTION = 1;
        static final int POOL = 2;
        static final int ADDITION = 3;
        private static final int MOST_OUTPUTS = 16;
        private static final int MOST_SHIFT = 15;
        private static final int MOST_KERNEL = 3;

        int kind;
        int one;
        int two;
        int kernelHeight;
        int kernelWidth;
        int step;
        int edge;
        int shift;
        boolean relu;
        int address;
        int height;
        int width;
        int channels;
        int begin;
        // Where the tensor would begin if places were given anew.
        int spot;

        Layer() {
            reset(INPUT, 0, 0);
        }

        void reset(int kind, int one, int two) {
            this.kind = kind;
            this.one = one;
            this.two = two;
            kernelHeight = 1;
            kernelWidth = 1;
            step = 1;
            edge = 0;
            shift = 0;
            relu = false;
            address = 0;
            takeForm(1, 1, 1);
            begin = 0;
            spot = 0;
        }

        void takeForm(int height, int width, int channels) {
            this.height = height;
            this.width = width;
            this.channels = channels;
        }

        void takeKernel(int height, int width) {
            kernelHeight = height;
            kernelWidth = width;
        }

        /** Takes a shift as the calls have it: 16 more with relu. */
        void takeNarrowing(int how) {
            relu = how >= 16;
            shift = relu ? how - 16 : how;
        }

        int narrowing() {
            return relu ? 16 + shift : shift;
        }

        int size() {
            return height * width * channels;
        }

        boolean takes(int tensor) {
            return kind != INPUT && (one == tensor || two == tensor);
        }

        static boolean isWithin(int value, int least, int most) {
            return value >= least && value <= most;
        }

        boolean numbersFit() {
            if (kind == ADDITION) {
                return isWithin(shift, 0, MOST_SHIFT);
            }
            if (!isWithin(kernelHeight, 1, MOST_KERNEL) || !isWithin(kernelWidth, 1, MOST_KERNEL)) {
                return false;
            }
            if (kind == POOL) {
                return isWithin(step, 1, 3);
            }
            return isWithin(step, 1, 2) && isWithin(edge, 0, 1) && isWithin(shift, 0, MOST_SHIFT)
                    && isWithin(channels, 1, MOST_OUTPUTS);
        }

        /** Takes the form of the result, if there can be one; the numbers fit already. */
        boolean takeResult(Layer first, Layer second) {
            if (kind == ADDITION) {
                takeForm(first.height, first.width, first.channels);
                return height == second.height && width == second.width && channels == second.channels;
            }
            int down = first.height + 2 * edge - kernelHeight;
            int across = first.width + 2 * edge - kernelWidth;
            if (down < 0 || across < 0 || step < 1) {
                return false;
            }
            height = down / step + 1;
            width = across / step + 1;
            if (kind == POOL) {
                channels = first.channels;
            } else if (address < 0 || address > Machine.MEMORY_SIZE - parametersSize(first)) {
                return false;
            }
            return isWithin(height, 1, Network.MOST_FORM) && isWithin(width, 1, Network.MOST_FORM);
        }

        private int parametersSize(Layer source) {
            return channels * (4 + kernelHeight * kernelWidth * source.channels);
        }

        int biasAt(int output) {
            return address + 4 * output;
        }

        int weightAt(Layer source, int kernelRow, int kernelColumn, int channel, int output) {
            int ahead = (kernelRow * kernelWidth + kernelColumn) * source.channels + channel;
            return address + 4 * channels + ahead * channels + output;
        }

        int cellAt(int y, int x, int channel) {
            return begin + (y * width + x) * channels + channel;
        }

        boolean hasPlace(int y, int x) {
            return y >= 0 && y < height && x >= 0 && x < width;
        }

        static int byteAt(byte[] memory, int at) {
            return at < 0 || at >= memory.length ? 0 : memory[at];
        }

        /** Sets the cells by the layer's definition, each at once, as parameters may lie among them. */
        void fillCells(byte[] memory, Layer first, Layer second) {
            for (int y = 0; y < height; y++) {
                for (int x = 0; x < width; x++) {
                    for (int c = 0; c < channels; c++) {
                        int at = cellAt(y, x, c);
                        if (at >= 0 && at < memory.length) {
                            memory[at] = Machine.narrowed(sumOf(memory, first, second, y, x, c), narrowing());
                        }
                    }
                }
            }
        }

        private int sumOf(byte[] memory, Layer first, Layer second, int y, int x, int c) {
            if (kind == CONVOLUTION) {
                return convolved(memory, first, y, x, c);
            }
            if (kind == POOL) {
                return greatest(memory, first, y, x, c);
            }
            return byteAt(memory, first.cellAt(y, x, c)) + byteAt(memory, second.cellAt(y, x, c));
        }

        private int convolved(byte[] memory, Layer source, int y, int x, int output) {
            int sum = Machine.intAt(memory, biasAt(output));
            for (int ky = 0; ky < kernelHeight; ky++) {
                for (int kx = 0; kx < kernelWidth; kx++) {
                    int row = step * y + ky - edge;
                    int column = step * x + kx - edge;
                    if (source.hasPlace(row, column)) {
                        int from = source.cellAt(row, column, 0);
                        sum += product(memory, source, from, weightAt(source, ky, kx, 0, output));
                    }
                }
            }
            return sum;
        }

        private int product(byte[] memory, Layer source, int cellsFrom, int weightsFrom) {
            int sum = 0;
            for (int k = 0; k < source.channels; k++) {
                sum += byteAt(memory, cellsFrom + k) * byteAt(memory, weightsFrom + k * channels);
            }
            return sum;
        }

        private int greatest(byte[] memory, Layer source, int y, int x, int channel) {
            int most = -128;
            for (int ky = 0; ky < kernelHeight; ky++) {
                for (int kx = 0; kx < kernelWidth; kx++) {
                    most = Math.max(most, byteAt(memory, source.cellAt(step * y + ky, step * x + kx, channel)));
                }
            }
            return most;
        }
    }

    /** The input and the layers behind it. */
    private static final class Network {
        static final int FINE = 0;
        static final int NO_TENSOR = 1;
        static final int WRONG_NUMBER = 2;
        static final int NO_ROOM = 3;
        static final int MOST_FORM = 63;
        static final int MOST_TENSORS = 11;
        private static final int MOST_END = 2048;

        // One more than there can be: the one behind the last tensor is where a layer is drafted.
        final Layer[] layers;
        int tensors;

        Network() {
            layers = new Layer[MOST_TENSORS + 1];
            for (int k = 0; k <= MOST_TENSORS; k++) {
                layers[k] = new Layer();
            }
            tensors = 1;
        }

        static boolean inputFits(int height, int width, int channels) {
            return Layer.isWithin(height, 1, MOST_FORM) && Layer.isWithin(width, 1, MOST_FORM)
                    && Layer.isWithin(channels, 1, MOST_FORM) && height * width * channels <= MOST_END;
        }

        void beginWith(int height, int width, int channels) {
            dropLayers();
            layers[0].reset(Layer.INPUT, 0, 0);
            layers[0].takeForm(height, width, channels);
        }

        void dropLayers() {
            tensors = 1;
        }

        boolean has(int tensor) {
            return tensor >= 0 && tensor < tensors;
        }

        Layer draft() {
            return layers[tensors];
        }

        /** Makes the draft a layer, or answers why it can't be one. */
        int offer() {
            Layer draft = draft();
            if (!has(draft.one) || !has(draft.two)) {
                return NO_TENSOR;
            }
            if (!draft.numbersFit() || !draft.takeResult(layers[draft.one], layers[draft.two])) {
                return WRONG_NUMBER;
            }
            int begin = endOfAll();
            if (tensors >= MOST_TENSORS || begin + draft.size() > MOST_END) {
                return NO_ROOM;
            }
            draft.begin = begin;
            tensors++;
            return FINE;
        }

        int endOfAll() {
            int most = 0;
            for (int k = 0; k < tensors; k++) {
                most = Math.max(most, layers[k].begin + layers[k].size());
            }
            return most;
        }

        void settle(byte[] memory) {
            for (int k = 1; k < tensors; k++) {
                Layer layer = layers[k];
                if (has(layer.one) && has(layer.two)) {
                    layer.fillCells(memory, layers[layer.one], layers[layer.two]);
                }
            }
        }

        boolean findSpots() {
            layers[0].spot = 0;
            for (int k = 1; k < tensors; k++) {
                layers[k].spot = leastSpot(k);
                if (layers[k].spot + layers[k].size() > MOST_END) {
                    return false;
                }
            }
            return true;
        }

        void takeSpots() {
            for (int k = 0; k < tensors; k++) {
                layers[k].begin = layers[k].spot;
            }
        }

        private int leastSpot(int tensor) {
            int spot = 0;
            int size = layers[tensor].size();
            // The spot goes behind one tensor at least in each round, and never back.
            for (int round = 0; round < tensor; round++) {
                for (int k = 0; k < tensor; k++) {
                    int itsEnd = layers[k].spot + layers[k].size();
                    if (spot < itsEnd && layers[k].spot < spot + size && isNeeded(k, tensor)) {
                        spot = itsEnd;
                    }
                }
            }
            return spot;
        }

        private boolean isNeeded(int tensor, int layer) {
            boolean taken = false;
            for (int k = 1; k < tensors; k++) {
                if (layers[k].takes(tensor)) {
                    taken = true;
                    if (k >= layer) {
                        return true;
                    }
                }
            }
            return !taken;
        }
    }

    /** Makes a network of the text. */
    private static final class NetworkReader {
        private static final int BY = 1;
        private static final int OUTPUTS = 2;
        private static final int AT = 4;
        private static final int STEP = 8;
        private static final int EDGE = 16;
        private static final int SHIFT = 32;
        private static final int RELU = 64;
        private static final int AS = 128;
        private static final int MOST_LETTERS = 8;

        private final Text text;
        private Network net;
        // A tensor's name is kept as the part of the text that tells it; size 0 is no name.
        private final int[] nameFrom;
        private final int[] nameSize;
        private int lineNameFrom;
        private int lineNameSize;
        // Which options the line may tell, must tell, and has told.
        private int allowed;
        private int needed;
        private int seen;

        NetworkReader(Text text, Network net) {
            this.text = text;
            this.net = net;
            nameFrom = new int[Network.MOST_TENSORS];
            nameSize = new int[Network.MOST_TENSORS];
            lineNameFrom = 0;
            lineNameSize = 0;
            allowed = 0;
            needed = 0;
            seen = 0;
        }

        int readInto(Network fresh) {
            net = fresh;
            boolean begun = false;
            int row = 0;
            Arrays.fill(nameSize, 0);
            text.rewind();
            while (row <= MOST_SIGNS && text.nextLine()) {
                text.nextToken();
                if (text.sort != Text.NOTHING) {
                    boolean fine = begun ? readLayer() && readOptions() && net.offer() == Network.FINE
                            : readInput() && readOptions();
                    if (!fine) {
                        return row;
                    }
                    begun = true;
                    keepName(net.tensors - 1);
                }
                row++;
            }
            return begun ? NONE : row;
        }

        private boolean readInput() {
            if (!text.isWord("input") || !text.nextIsNumber()) {
                return false;
            }
            int height = text.number;
            if (!text.nextIsWord("x") || !text.nextIsNumber()) {
                return false;
            }
            int width = text.number;
            if (!text.nextIsWord("x") || !text.nextIsNumber()) {
                return false;
            }
            int channels = text.number;
            if (!Network.inputFits(height, width, channels)) {
                return false;
            }
            net.beginWith(height, width, channels);
            allowed = AS;
            needed = 0;
            return true;
        }

        private boolean readLayer() {
            int kind;
            if (text.isWord("conv")) {
                kind = Layer.CONVOLUTION;
                allowed = BY | OUTPUTS | AT | STEP | EDGE | SHIFT | RELU | AS;
                needed = BY | OUTPUTS | AT;
            } else if (text.isWord("pool")) {
                kind = Layer.POOL;
                allowed = BY | STEP | AS;
                needed = BY;
            } else if (text.isWord("add")) {
                kind = Layer.ADDITION;
                allowed = SHIFT | RELU | AS;
                needed = 0;
            } else {
                return false;
            }
            int one = readTensor();
            int two = kind == Layer.ADDITION ? readTensor() : one;
            net.draft().reset(kind, one, two);
            return one != NONE && two != NONE;
        }

        private int readTensor() {
            text.nextToken();
            if (text.sort == Text.NUMBER) {
                return text.number;
            }
            return text.sort == Text.WORD ? tensorNamed() : NONE;
        }

        private int tensorNamed() {
            for (int k = 0; k < nameSize.length; k++) {
                if (nameSize[k] > 0 && text.isSameAs(nameFrom[k], nameSize[k])) {
                    return k;
                }
            }
            return NONE;
        }

        private boolean readOptions() {
            seen = 0;
            lineNameSize = 0;
            for (int part = 0; part <= MOST_SIGNS; part++) {
                text.nextToken();
                if (text.sort == Text.NOTHING) {
                    return (seen & needed) == needed;
                }
                int option = optionTold();
                if ((option & allowed) == 0 || (option & seen) != 0 || !readOption(option)) {
                    return false;
                }
                seen |= option;
            }
            return false;
        }

        private int optionTold() {
            if (text.isWord("by")) {
                return BY;
            }
            if (text.isWord("outputs")) {
                return OUTPUTS;
            }
            if (text.isWord("at")) {
                return AT;
            }
            if (text.isWord("step")) {
                return STEP;
            }
            if (text.isWord("edge")) {
                return EDGE;
            }
            if (text.isWord("shift")) {
                return SHIFT;
            }
            if (text.isWord("relu")) {
                return RELU;
            }
            return text.isWord("as") ? AS : 0;
        }

        private boolean readOption(int option) {
            if (option == AS) {
                return readName();
            }
            Layer draft = net.draft();
            if (option == RELU) {
                draft.relu = true;
                return true;
            }
            if (!text.nextIsNumber()) {
                return false;
            }
            switch (option) {
                case OUTPUTS:
                    draft.channels = text.number;
                    return true;
                case AT:
                    draft.address = text.number;
                    return true;
                case STEP:
                    draft.step = text.number;
                    return true;
                case EDGE:
                    draft.edge = text.number;
                    return true;
                case SHIFT:
                    draft.shift = text.number;
                    return true;
                default:
                    return readKernelFrom(text.number, draft);
            }
        }

        private boolean readKernelFrom(int height, Layer draft) {
            if (!text.nextIsWord("x") || !text.nextIsNumber()) {
                return false;
            }
            draft.takeKernel(height, text.number);
            return true;
        }

        private boolean readName() {
            text.nextToken();
            if (text.sort != Text.WORD || text.tokenSize() > MOST_LETTERS || tensorNamed() != NONE
                    || optionTold() != 0 || beginsLineOrIsX()) {
                return false;
            }
            lineNameFrom = text.from;
            lineNameSize = text.tokenSize();
            return true;
        }

        private boolean beginsLineOrIsX() {
            return text.isWord("input") || text.isWord("conv") || text.isWord("pool") || text.isWord("add")
                    || text.isWord("x");
        }

        private void keepName(int tensor) {
            if (tensor >= 0 && tensor < nameSize.length) {
                nameFrom[tensor] = lineNameFrom;
                nameSize[tensor] = lineNameSize;
            }
        }
    }

    /** Makes a program of layers. */
    private static final class Compiler {
        private static final int TILE_CELLS = 128;
        private static final int GROUP_CELLS = 256;
        private static final int MOST_PLACES = 63;

        private long[] words;
        // It counts on when the words are full, so that more than 600 tells that there is no room.
        int made;
        private int side;
        private Layer layer;
        private Layer first;
        private Layer second;
        // Of the tile: its number, first channel, channels, row, first place, places.
        private int tile;
        private int channel;
        private int columns;
        private int row;
        private int start;
        private int places;
        // Of the group: its number, kernel row and column (or which tensor), first channel, channels.
        private int group;
        private int kernelRow;
        private int kernelColumn;
        private int block;
        private int depth;

        Compiler(long[] words) {
            this.words = words;
            made = 0;
            side = Machine.LEAST_SIDE;
        }

        void open(int side, long[] words) {
            this.side = Math.max(Machine.LEAST_SIDE, Math.min(Machine.MOST_SIDE, side));
            this.words = words;
            made = 0;
        }

        void makeLayer(Network net, int k) {
            if (!net.has(k) || !net.has(net.layers[k].one) || !net.has(net.layers[k].two)) {
                return;
            }
            layer = net.layers[k];
            first = net.layers[layer.one];
            second = net.layers[layer.two];
            boolean flat = layer.kind == Layer.ADDITION;
            int rows = flat ? 1 : layer.height;
            int inRow = flat ? layer.height * layer.width : layer.width;
            int part = Math.min(TILE_CELLS / side, MOST_PLACES);
            tile = 0;
            group = 0;
            for (channel = 0; channel < layer.channels; channel += side) {
                columns = Math.min(side, layer.channels - channel);
                for (row = 0; row < rows; row++) {
                    for (start = 0; start < inRow; start += part) {
                        if (made > MOST_WORDS) {
                            return;
                        }
                        places = Math.min(part, inRow - start);
                        makeTile();
                    }
                }
            }
            makeWaits();
        }

        private void makeTile() {
            boolean deep = layer.kind == Layer.CONVOLUTION;
            boolean flat = layer.kind == Layer.ADDITION;
            int kernelRows = flat ? 1 : layer.kernelHeight;
            int kernelColumns = flat ? 2 : layer.kernelWidth;
            int blocksEnd = deep ? first.channels : 1;
            int groupsBehind = group;
            for (kernelRow = 0; kernelRow < kernelRows; kernelRow++) {
                for (kernelColumn = 0; kernelColumn < kernelColumns; kernelColumn++) {
                    for (block = 0; block < blocksEnd; block += side) {
                        depth = deep ? Math.min(side, first.channels - block) : columns;
                        boolean last = kernelRow == kernelRows - 1 && kernelColumn == kernelColumns - 1
                                && block + side >= blocksEnd;
                        makeGroup(group == groupsBehind, last);
                        group++;
                    }
                }
            }
            int half = tileHalf();
            long narrow = Words.shaped(Words.NARROW, places, columns) | Words.bits(Words.A, half)
                    | Words.bits(Words.B, half) | Words.bits(Words.N, layer.narrowing())
                    | Words.flag(Words.PUSH_BEFORE) | Words.flag(Words.PUSH_BEHIND);
            emit(tile > 1 ? narrow | Words.flag(Words.POP_BEHIND) : narrow);
            emit(Words.shaped(Words.STORE, places, columns) | Words.bits(Words.A, half)
                    | Words.bits(Words.ADDRESS, layer.cellAt(row, start, channel))
                    | Words.bits(Words.STRIDE, layer.channels)
                    | Words.flag(Words.POP_BEFORE) | Words.flag(Words.PUSH_BEFORE));
            tile++;
        }

        private void makeGroup(boolean isFirst, boolean isLast) {
            int firstLoad = made;
            if (layer.kind == Layer.CONVOLUTION) {
                loadParameters(isFirst);
                loadMet(block);
            } else if (layer.kind == Layer.POOL) {
                loadMet(channel);
            } else {
                Layer source = kernelColumn == 0 ? first : second;
                loadPlaces(0, places, source.cellAt(0, start, channel), source.channels);
            }
            if (group > 1) {
                mark(firstLoad, Words.POP_BEHIND);
            }
            mark(made - 1, Words.PUSH_BEHIND);
            long work = workOf(isFirst) | Words.flag(Words.POP_BEFORE);
            emit(isLast ? work : work | Words.flag(Words.PUSH_BEFORE));
        }

        private void loadParameters(boolean withBiases) {
            if (withBiases) {
                emit(Words.shaped(Words.LOAD_SUMS, places, columns) | Words.bits(Words.A, tileHalf())
                        | Words.bits(Words.ADDRESS, layer.biasAt(channel)));
            }
            emit(Words.shaped(Words.LOAD_WEIGHTS, depth, columns) | Words.bits(Words.A, groupHalf())
                    | Words.bits(Words.ADDRESS, layer.weightAt(first, kernelRow, kernelColumn, block, channel))
                    | Words.bits(Words.STRIDE, layer.channels));
        }

        private void loadMet(int firstChannel) {
            int y = layer.step * row + kernelRow - layer.edge;
            if (y < 0 || y >= first.height) {
                clearPlaces(0, places);
                return;
            }
            int from = 0;
            while (from < places && metColumn(from) < 0) {
                from++;
            }
            int to = from;
            while (to < places && metColumn(to) < first.width) {
                to++;
            }
            clearPlaces(0, from);
            loadPlaces(from, to, first.cellAt(y, metColumn(from), firstChannel), layer.step * first.channels);
            clearPlaces(to, places);
        }

        private int metColumn(int k) {
            return layer.step * (start + k) + kernelColumn - layer.edge;
        }

        private void clearPlaces(int from, int to) {
            if (to > from) {
                emit(Words.shaped(Words.CLEAR_CELLS, to - from, depth)
                        | Words.bits(Words.A, groupHalf() + from * side));
            }
        }

        private void loadPlaces(int from, int to, int address, int stride) {
            if (to > from) {
                emit(Words.shaped(Words.LOAD_CELLS, to - from, depth)
                        | Words.bits(Words.A, groupHalf() + from * side)
                        | Words.bits(Words.ADDRESS, address) | Words.bits(Words.STRIDE, stride));
            }
        }

        private long workOf(boolean isFirst) {
            if (layer.kind == Layer.CONVOLUTION) {
                return Words.shaped(Words.MULTIPLY, places, columns) | Words.bits(Words.A, groupHalf())
                        | Words.bits(Words.STRIDE, groupHalf()) | Words.bits(Words.B, tileHalf())
                        | Words.bits(Words.N, 2 * depth + 1);
            }
            int further = layer.kind == Layer.POOL ? 2 : 1;
            return Words.shaped(Words.COMBINE, places, columns) | Words.bits(Words.A, groupHalf())
                    | Words.bits(Words.B, tileHalf()) | Words.bits(Words.N, isFirst ? 0 : further);
        }

        private void makeWaits() {
            long pop = Words.bits(Words.KIND, Words.WAIT) | Words.flag(Words.POP_BEHIND);
            if (tile > 1) {
                emit(pop | Words.bits(Words.N, 1));
            }
            emit(pop | Words.bits(Words.N, 1) | Words.flag(Words.PUSH_BEFORE));
            int waiting = group > 1 ? 3 : 2;
            for (int k = 0; k < waiting; k++) {
                emit(pop);
            }
        }

        private int tileHalf() {
            return TILE_CELLS * (tile & 1);
        }

        private int groupHalf() {
            return GROUP_CELLS * (group & 1);
        }

        private void emit(long word) {
            if (made < MOST_WORDS && made < words.length) {
                words[made] = word;
            }
            made++;
        }

        private void mark(int i, int flag) {
            if (i >= 0 && i < MOST_WORDS && i < words.length) {
                words[i] |= Words.flag(flag);
            }
        }
    }

    /** A line of a listing, written anew for each sign that is asked for. */
    private static final class Line {
        private static final int MOST = 128;

        private final char[] signs;
        private int count;

        Line() {
            signs = new char[MOST];
            count = 0;
        }

        int signAt(int k) {
            return k < 0 || k >= count ? NONE : signs[k];
        }

        void writeInstruction(long word) {
            count = 0;
            addToken(Words.nameOf(Words.get(word, Words.KIND)));
            addUnlessNothing("at", word, Words.ADDRESS);
            if (Words.has(word, Words.ROWS) || Words.has(word, Words.COLUMNS)) {
                addPair("by", Words.get(word, Words.ROWS), Words.get(word, Words.COLUMNS));
            }
            addUnlessNothing("a", word, Words.A);
            addUnlessNothing("b", word, Words.B);
            addUnlessNothing("step", word, Words.STRIDE);
            addUnlessNothing("n", word, Words.N);
            addIf(Words.has(word, Words.POP_BEFORE), "pop before");
            addIf(Words.has(word, Words.POP_BEHIND), "pop behind");
            addIf(Words.has(word, Words.PUSH_BEFORE), "push before");
            addIf(Words.has(word, Words.PUSH_BEHIND), "push behind");
            addSign('\n');
        }

        void writeLayer(Layer layer) {
            count = 0;
            switch (layer.kind) {
                case Layer.CONVOLUTION:
                    addNumbered("conv", layer.one);
                    addPair("by", layer.kernelHeight, layer.kernelWidth);
                    addNumbered("outputs", layer.channels);
                    addNumbered("at", layer.address);
                    break;
                case Layer.POOL:
                    addNumbered("pool", layer.one);
                    addPair("by", layer.kernelHeight, layer.kernelWidth);
                    break;
                case Layer.ADDITION:
                    addNumbered("add", layer.one);
                    addNumber(layer.two);
                    break;
                default:
                    addPair("input", layer.height, layer.width);
                    addNumbered("x", layer.channels);
                    break;
            }
            addOptions(layer);
            addSign('\n');
        }

        // What a kind of layer doesn't have is as if it weren't told, and so left out.
        private void addOptions(Layer layer) {
            if (layer.step != 1) {
                addNumbered("step", layer.step);
            }
            if (layer.edge != 0) {
                addNumbered("edge", layer.edge);
            }
            if (layer.shift != 0) {
                addNumbered("shift", layer.shift);
            }
            addIf(layer.relu, "relu");
        }

        private void addUnlessNothing(String name, long word, int which) {
            if (Words.has(word, which)) {
                addNumbered(name, Words.get(word, which));
            }
        }

        private void addIf(boolean so, String token) {
            if (so) {
                addToken(token);
            }
        }

        private void addPair(String name, int one, int two) {
            addNumbered(name, one);
            addNumbered("x", two);
        }

        private void addNumbered(String name, int number) {
            addToken(name);
            addNumber(number);
        }

        private void addToken(String token) {
            if (count > 0) {
                addSign(' ');
            }
            for (int k = 0; k < token.length(); k++) {
                addSign(token.charAt(k));
            }
        }

        private void addNumber(int number) {
            addSign(' ');
            for (int unit = 1000; unit > 0; unit /= 10) {
                if (number >= unit || unit == 1) {
                    addSign((char) ('0' + number / unit % 10));
                }
            }
        }

        private void addSign(char sign) {
            if (count < signs.length) {
                signs[count] = sign;
                count++;
            }
        }
    }
}
