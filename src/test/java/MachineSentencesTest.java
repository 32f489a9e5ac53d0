/** Sentences of the document's terms, 1: the machine's state, what each kind of instruction does, what is illegal. */
public final class MachineSentencesTest {
    private static final Class<IllegalArgumentException> ARGUMENT = IllegalArgumentException.class;
    private static final Class<IndexOutOfBoundsException> INDEX = IndexOutOfBoundsException.class;
    private static final int MAX = Integer.MAX_VALUE;
    private static final int MIN = Integer.MIN_VALUE;

    public static void main(String[] args) {
        sides();
        memoryBytes();
        bufferSizes();
        allZeroAtFirst();
        rowsOfTheSide();
        wordFields();
        sumsWrap();
        writtenTwice();
        loadCells();
        loadWeights();
        clearCells();
        loadSums();
        multiply();
        combine();
        narrowByNoShift();
        narrowByShift();
        narrowDoesNotWrap();
        narrowBelowAndAbove();
        narrowBelowZero();
        store();
        waitDoesNothing();
        illegalKinds();
        illegalShapes();
        illegalWaitShapes();
        illegalFields();
        illegalPlaces();
        illegalDepths();
        illegalNumbers();
        illegalTokens();
        Check.finish();
    }

    private static void sides() {
        Check.sentence("THE MACHINE has a SIDE T, 2 .. 8");
        for (int t = 2; t <= 8; t++) {
            Forge x = new Forge();
            x.side(t);
            Check.due("clear of T columns", x.illegal(Word.of("clear by 1 x " + t)) ? 1 : 0, 0);
            Check.due("clear of T + 1 columns", x.illegal(Word.of("clear by 1 x " + (t + 1))) ? 1 : 0, 1);
        }
        for (int t : new int[] {1, 9, 0, -2, MIN, MAX}) {
            Forge x = new Forge();
            Check.refusesAndKeeps("side(" + t + ")", x, ARGUMENT, () -> x.side(t));
        }
    }

    private static void memoryBytes() {
        Check.sentence("a MEMORY of 4096 bytes (-128 .. 127)");
        Forge x = new Forge();
        Check.due("the first", x.look(0, 0), 0);
        Check.due("the last", x.look(0, 4095), 0);
        Check.refuses("behind the last", INDEX, () -> x.look(0, 4096));
        Check.refuses("ahead of the first", INDEX, () -> x.look(0, -1));
        for (int v = 0; v < 256; v += 4) {
            x.memory(4092, v | v + 1 << 8 | v + 2 << 16 | v + 3 << 24);
            for (int k = 0; k < 4; k++) {
                Check.due("byte " + (v + k), x.look(0, 4092 + k), v + k < 128 ? v + k : v + k - 256);
            }
        }
    }

    private static void bufferSizes() {
        Check.sentence("buffers: CELLS, 512 bytes, WEIGHTS, 512 bytes, SUMS, 256 ints, RESULTS, 256 bytes");
        int[] sizes = {4096, 512, 512, 256, 256};
        for (int t = 2; t <= 8; t += 3) {
            Forge x = new Forge();
            x.side(t);
            for (int what = 1; what < 5; what++) {
                int buffer = what;
                Check.due("the last of " + what, x.look(what, sizes[what] - 1), 0);
                Check.refuses("behind the last of " + what, INDEX, () -> x.look(buffer, sizes[buffer]));
                Check.refuses("ahead of the first of " + what, INDEX, () -> x.look(buffer, -1));
            }
        }
        Forge x = new Forge();
        x.memory(0, 0x80);
        Check.due("run", Word.run(x, "cells by 1 x 1 a 511", "weights by 1 x 1 a 511", "sums by 1 x 1 a 255 push behind",
                "narrow by 1 x 1 a 255 b 255 pop before"), 1);
        Check.due("a byte of CELLS", x.look(1, 511), -128);
        Check.due("a byte of WEIGHTS", x.look(2, 511), -128);
        Check.due("an int of SUMS", x.look(3, 255), 128);
        Check.due("a byte of RESULTS", x.look(4, 255), 127);
    }

    private static void allZeroAtFirst() {
        Check.sentence("all 0 at first");
        Forge x = new Forge();
        for (int what = 0; what < 5; what++) {
            for (int k = 0; k < Check.SIZES[what]; k++) {
                Check.due("look(" + what + ", " + k + ")", x.look(what, k), 0);
            }
        }
    }

    /** Bytes 1, 2, .. at the memory's beginning. */
    private static Forge counted(int t, int many) {
        Forge x = new Forge();
        x.side(t);
        for (int k = 0; k < many; k += 4) {
            x.memory(k, k + 1 | k + 2 << 8 | k + 3 << 16 | k + 4 << 24);
        }
        return x;
    }

    private static void rowsOfTheSide() {
        Check.sentence("In buffers things lie in ROWS of T: place p, row r, column c is p + r * T + c");
        for (int t = 2; t <= 8; t++) {
            Forge x = counted(t, 64);
            int columns = t - 1;
            int last = 512 - 2 * t - columns;
            Check.due("run", Word.run(x, "cells by 3 x " + columns + " a " + last + " step 10",
                    "weights by 3 x " + columns + " a 5 step 10", "sums by 3 x 1 a 7 step 4 push behind",
                    "narrow by 3 x 1 a 7 b " + (255 - 2 * t) + " n 16 pop before"), 1);
            for (int r = 0; r < 3; r++) {
                for (int c = 0; c < t; c++) {
                    if (last + r * t + c < 512) {
                        Check.due("cells", x.look(1, last + r * t + c), c < columns ? 10 * r + c + 1 : 0);
                    }
                    Check.due("weights", x.look(2, 5 + r * t + c), c < columns ? 10 * r + c + 1 : 0);
                    Check.due("sums", x.look(3, 7 + r * t + c), c == 0 ? 0x04030201 + r * 0x04040404 : 0);
                }
                Check.due("results", x.look(4, 255 - 2 * t + r * t), 127);
            }
            Check.due("cells ahead", x.look(1, last - 1), 0);
            Check.due("weights ahead", x.look(2, 4), 0);
            Check.due("sums ahead", x.look(3, 6), 0);
        }
    }

    private static void wordFields() {
        Check.sentence("fields from its lowest bit on: KIND (4 bits), POP BEFORE, .. (1 each), ADDRESS (12), .. N (5)");
        Forge x = new Forge();
        int[] bits = {4, 1, 1, 1, 1, 12, 6, 5, 9, 9, 10, 5};
        int lowest = 0;
        for (int which = 0; which < 12; which++) {
            long most = (1L << bits[which]) - 1;
            for (int other = 0; other < 12; other++) {
                Check.due("field " + other, x.field(most << lowest, other), other == which ? most : 0);
            }
            lowest += bits[which];
        }
    }

    private static Forge withSum(int sum, int cell, int weight) {
        Forge x = new Forge();
        x.memory(0, sum);
        x.memory(4, cell & 255 | (weight & 255) << 8);
        return x;
    }

    private static int multiplied(int sum, int cell, int weight, int n) {
        Forge x = withSum(sum, cell, weight);
        Check.due("run", Word.run(x, "sums by 1 x 1", "cells at 4 by 1 x 1", "weights at 5 by 1 x 1 push behind",
                "multiply by 1 x 1 n " + n + " pop before"), 1);
        return x.look(3, 0);
    }

    private static int combined(int sum, int cell, int n) {
        Forge x = withSum(sum, cell, 0);
        Check.due("run", Word.run(x, "sums by 1 x 1", "cells at 4 by 1 x 1 push behind",
                "combine by 1 x 1 n " + n + " pop before"), 1);
        return x.look(3, 0);
    }

    private static void sumsWrap() {
        Check.sentence("Sums of ints wrap");
        Check.due("MULTIPLY, above", multiplied(MAX, 1, 1, 3), MIN);
        Check.due("MULTIPLY, below", multiplied(MIN, 1, -1, 3), MAX);
        Check.due("MULTIPLY, far above", multiplied(MAX, -128, -128, 3), MIN + 16383);
        Check.due("MULTIPLY, far below", multiplied(MIN, 127, -128, 3), MAX - 16255);
        Check.due("COMBINE, above", combined(MAX, 1, 1), MIN);
        Check.due("COMBINE, below", combined(MIN, -1, 1), MAX);
        Check.due("COMBINE, far above", combined(MAX, 127, 1), MIN + 126);
        Check.due("COMBINE, far below", combined(MIN, -128, 1), MAX - 127);
    }

    /** RESULTS 0, 1, .. are 1, 2, .. */
    private static Forge withResults(int t) {
        Forge x = counted(t, 32);
        int rows = 32 / t;
        Check.due("run", Word.run(x, "cells by " + rows + " x " + t + " step " + t + " push behind",
                "combine by " + rows + " x " + t + " pop before", "narrow by " + rows + " x " + t), 1);
        Check.due("results", x.look(4, 5), 6);
        return x;
    }

    private static void writtenTwice() {
        Check.sentence("row by row, column by column; where a STORE writes a byte twice the later one counts");
        Forge x = withResults(2);
        Check.due("run", Word.run(x, "store at 100 by 3 x 2"), 1);
        Check.due("step 0: the last row's first", x.look(0, 100), 5);
        Check.due("step 0: the last row's second", x.look(0, 101), 6);
        Check.due("step 0: nothing behind", x.look(0, 102), 0);
        Forge y = withResults(2);
        Check.due("run", Word.run(y, "store at 100 by 3 x 2 step 1"), 1);
        int[] due = {0, 1, 3, 5, 6, 0};
        for (int k = 0; k < due.length; k++) {
            Check.due("step 1", y.look(0, 99 + k), due[k]);
        }
    }

    private static void loads(String kind, int what) {
        Forge x = counted(3, 64);
        x.memory(4092, 0x09080706);
        Check.due("step 0", Word.run(x, kind + " at 5 by 3 x 2 a 1"), 1);
        int[] due = {0, 6, 7, 0, 6, 7, 0, 6, 7, 0};
        for (int k = 0; k < due.length; k++) {
            Check.due("step 0, place " + k, x.look(what, k), due[k]);
        }
        Check.due("step 1", Word.run(x, kind + " at 5 by 3 x 3 step 1"), 1);
        int[] overlapping = {6, 7, 8, 7, 8, 9, 8, 9, 10};
        for (int k = 0; k < overlapping.length; k++) {
            Check.due("step 1, place " + k, x.look(what, k), overlapping[k]);
        }
        Check.due("step 1023", Word.run(x, kind + " at 3 by 5 x 1 step 1023"), 1);
        Check.due("step 1023, the first", x.look(what, 0), 4);
        Check.due("step 1023, the last byte of the memory", x.look(what, 12), 9);
        Check.due("the last byte alone", Word.run(x, kind + " at 4095 by 1 x 1 a 511"), 1);
        Check.due("the last place", x.look(what, 511), 9);
        Check.due("63 rows", Word.run(x, kind + " at 4093 by 63 x 3 a 323"), 1);
        Check.due("63 rows, the last place", x.look(what, 511), 9);
        Check.due("63 rows, the first place", x.look(what, 323), 7);
    }

    private static void loadCells() {
        Check.sentence("1 LOAD CELLS: CELLS A, r, c becomes the memory's ADDRESS + r * STRIDE + c");
        loads("cells", 1);
    }

    private static void loadWeights() {
        Check.sentence("2 LOAD WEIGHTS: likewise WEIGHTS");
        loads("weights", 2);
    }

    private static void clearCells() {
        Check.sentence("3 CLEAR CELLS: CELLS A, r, c becomes 0");
        Forge x = counted(3, 16);
        Check.due("run", Word.run(x, "cells by 4 x 3 a 500 step 3", "clear by 2 x 2 a 503"), 1);
        int[] due = {1, 2, 3, 0, 0, 6, 0, 0, 9, 10, 11, 12};
        for (int k = 0; k < due.length; k++) {
            Check.due("place " + (500 + k), x.look(1, 500 + k), due[k]);
        }
        Check.due("run", Word.run(x, "clear by 1 x 1 a 511"), 1);
        Check.due("the last place", x.look(1, 511), 0);
        Check.due("the one ahead of it", x.look(1, 510), 11);
        Check.due("WEIGHTS", x.look(2, 0), 0);
    }

    private static void loadSums() {
        Check.sentence("4 LOAD SUMS: SUMS A, r, c becomes the int of the four bytes (the lowest first) from ADDRESS"
                + " + r * STRIDE + 4 c on");
        Forge x = counted(2, 32);
        x.memory(4092, 0x80FF7F01);
        x.memory(4088, MAX);
        Check.due("run", Word.run(x, "sums by 2 x 2 a 10 step 1", "sums at 4088 by 1 x 2 a 254", "sums at 8 by 3 x 1 a 20"), 1);
        Check.due("row 0, column 0", x.look(3, 10), 0x04030201);
        Check.due("row 0, column 1", x.look(3, 11), 0x08070605);
        Check.due("row 1, column 0", x.look(3, 12), 0x05040302);
        Check.due("row 1, column 1", x.look(3, 13), 0x09080706);
        Check.due("the greatest int", x.look(3, 254), MAX);
        Check.due("the last four bytes", x.look(3, 255), 0x80FF7F01);
        for (int r = 0; r < 3; r++) {
            Check.due("step 0", x.look(3, 20 + 2 * r), 0x0C0B0A09);
        }
        x.memory(4092, MIN);
        Check.due("run", Word.run(x, "sums at 4092 by 1 x 1"), 1);
        Check.due("the least int", x.look(3, 0), MIN);
    }

    private static void multiply() {
        Check.sentence("5 MULTIPLY: SUMS B, r, c becomes what it was if N's lowest bit is 1, otherwise 0, and for each k"
                + " below the DEPTH (N / 2) CELLS A, r, k times WEIGHTS STRIDE, k, c");
        Check.due("what it was counts", multiplied(1000, 3, 5, 3), 1015);
        Check.due("what it was doesn't count", multiplied(1000, 3, 5, 2), 15);
        Check.due("least times least", multiplied(0, -128, -128, 3), 16384);
        Check.due("least times greatest", multiplied(0, -128, 127, 3), -16256);
        for (int t = 2; t <= 8; t++) {
            for (int depth = 1; depth <= t; depth++) {
                Forge x = counted(t, 128);
                Check.due("run", Word.run(x, "cells by 2 x " + t + " a " + (512 - 2 * t) + " step " + t,
                        "weights at 20 by " + t + " x " + t + " a " + (512 - t * t) + " step " + t + " push behind",
                        "multiply by 2 x " + t + " a " + (512 - 2 * t) + " b " + (256 - 2 * t) + " step "
                        + (512 - t * t) + " n " + 2 * depth + " pop before"), 1);
                for (int r = 0; r < 2; r++) {
                    for (int c = 0; c < t; c++) {
                        int sum = 0;
                        for (int k = 0; k < depth; k++) {
                            sum += (1 + r * t + k) * (21 + k * t + c);
                        }
                        Check.due("T " + t + ", depth " + depth, x.look(3, 256 - 2 * t + r * t + c), sum);
                    }
                }
                Check.due("ahead", x.look(3, 255 - 2 * t), 0);
            }
        }
    }

    private static void combine() {
        Check.sentence("6 COMBINE: SUMS B, r, c becomes CELLS A, r, c (N 0), it and that together (1), the greater of both"
                + " (2)");
        int[][] due = {{1000, 7, 7, 1007, 1000}, {-1000, 7, 7, -993, 7}, {7, 7, 7, 14, 7}, {-128, -127, -127, -255, -127},
            {-129, -128, -128, -257, -128}, {-127, -128, -128, -255, -127}, {127, 127, 127, 254, 127},
            {126, 127, 127, 253, 127}, {128, 127, 127, 255, 128}, {MAX, 0, 0, MAX, MAX}, {MIN, 0, 0, MIN, 0}};
        for (int[] row : due) {
            for (int n = 0; n < 3; n++) {
                Check.due("of " + row[0] + " and " + row[1] + ", N " + n, combined(row[0], row[1], n), row[2 + n]);
            }
        }
        Forge x = counted(3, 16);
        Check.due("run", Word.run(x, "cells by 2 x 3 a 506 step 3 push behind",
                "combine by 2 x 2 a 507 b 251 pop before"), 1);
        int[] sums = {0, 2, 3, 0, 5, 6};
        for (int k = 0; k < 6; k++) {
            Check.due("place " + (250 + k), x.look(3, 250 + k), sums[k]);
        }
    }

    private static int narrowed(int sum, int n) {
        Forge x = new Forge();
        x.memory(0, sum);
        Check.due("run", Word.run(x, "sums by 1 x 1 a 255 push behind", "narrow by 1 x 1 a 255 b 254 n " + n + " pop before"),
                1);
        Check.due("behind it", x.look(4, 255), 0);
        Check.due("the sum stays", x.look(3, 255), sum);
        return x.look(4, 254);
    }

    private static void narrowByNoShift() {
        Check.sentence("7 NARROW: with s N's lowest four bits: if s is above 0, ..");
        for (int sum : new int[] {0, 1, -1, 126, 127, -127, -128}) {
            Check.due("s 0 of " + sum, narrowed(sum, 0), sum);
            Check.due("s 0 with relu of " + sum, narrowed(sum, 16), Math.max(0, sum));
        }
    }

    private static void narrowByShift() {
        Check.sentence("that and 2 to the (s - 1), divided by 2 to the s, rounded down");
        int[][] due = {{0, 1, 0}, {1, 1, 1}, {2, 1, 1}, {3, 1, 2}, {-1, 1, 0}, {-2, 1, -1}, {-3, 1, -1}, {-4, 1, -2},
            {1, 2, 0}, {2, 2, 1}, {5, 2, 1}, {6, 2, 2}, {-2, 2, 0}, {-3, 2, -1}, {-6, 2, -1}, {-7, 2, -2},
            {16383, 15, 0}, {16384, 15, 1}, {-16384, 15, 0}, {-16385, 15, -1}, {49151, 15, 1}, {49152, 15, 2},
            {127, 8, 0}, {128, 8, 1}, {-128, 8, 0}, {-129, 8, -1}};
        for (int[] row : due) {
            Check.due("s " + row[1] + " of " + row[0], narrowed(row[0], row[1]), row[2]);
            Check.due("s " + row[1] + " with relu of " + row[0], narrowed(row[0], 16 + row[1]), Math.max(0, row[2]));
        }
        for (int s = 1; s <= 15; s++) {
            int half = 1 << s - 1;
            Check.due("the half, s " + s, narrowed(half, s), 1);
            Check.due("one below the half, s " + s, narrowed(half - 1, s), 0);
            Check.due("the half below 0, s " + s, narrowed(-half, s), 0);
            Check.due("one less, s " + s, narrowed(-half - 1, s), -1);
        }
    }

    private static void narrowDoesNotWrap() {
        Check.sentence("(not wrapping)");
        for (int s = 0; s <= 15; s++) {
            Check.due("the greatest int, s " + s, narrowed(MAX, s), 127);
            Check.due("the least int, s " + s, narrowed(MIN, s), -128);
            Check.due("the greatest int with relu, s " + s, narrowed(MAX, 16 + s), 127);
            Check.due("the least int with relu, s " + s, narrowed(MIN, 16 + s), 0);
        }
        Check.due("one that the half takes beyond the ints", narrowed(MAX - 16383, 15), 127);
    }

    private static void narrowBelowAndAbove() {
        Check.sentence("then -128 if it is below that, 127 if above that");
        for (int s = 0; s <= 15; s++) {
            int one = 1 << s;
            int half = one / 2;
            Check.due("just 127, s " + s, narrowed(127 * one + one - 1 - half, s), 127);
            Check.due("just 128, s " + s, narrowed(128 * one - half, s), 127);
            Check.due("just 126, s " + s, narrowed(127 * one - 1 - half, s), 126);
            Check.due("just -128, s " + s, narrowed(-128 * one - half, s), -128);
            Check.due("just -129, s " + s, narrowed(-128 * one - half - 1, s), -128);
            Check.due("just -127, s " + s, narrowed(-127 * one - half, s), -127);
        }
    }

    private static void narrowBelowZero() {
        Check.sentence("then 0 if it is below 0 and N is 16 or more");
        for (int n : new int[] {15, 16, 17, 31}) {
            int one = 1 << n % 16;
            Check.due("-1, N " + n, narrowed(-one, n), n >= 16 ? 0 : -1);
            Check.due("-200, N " + n, narrowed(-200 * one, n), n >= 16 ? 0 : -128);
            Check.due("0, N " + n, narrowed(0, n), 0);
            Check.due("1, N " + n, narrowed(one, n), 1);
        }
    }

    private static void store() {
        Check.sentence("8 STORE: the memory's ADDRESS + r * STRIDE + c becomes RESULTS A, r, c");
        Forge x = withResults(3);
        Check.due("run", Word.run(x, "store at 4086 by 2 x 2 a 4 step 8", "store at 3 by 5 x 1 a 0 step 1023"), 1);
        int[] due = {5, 6, 0, 0, 0, 0, 0, 0, 8};
        for (int k = 0; k < due.length; k++) {
            Check.due("byte " + (4086 + k), x.look(0, 4086 + k), due[k]);
        }
        Check.due("the last byte", x.look(0, 4095), 13);
        Check.due("byte 3", x.look(0, 3), 1);
        Check.due("byte 1026", x.look(0, 1026), 4);
        Check.due("byte 2049", x.look(0, 2049), 7);
        Check.due("run", Word.run(x, "store at 4095 by 1 x 1 a 5"), 1);
        Check.due("the last byte anew", x.look(0, 4095), 6);
    }

    private static void waitDoesNothing() {
        Check.sentence("9 WAIT, of unit N (0, 1, 2): nothing");
        Forge x = withResults(4);
        StringBuilder before = new StringBuilder();
        StringBuilder after = new StringBuilder();
        for (int what = 0; what < 5; what++) {
            Check.looks(x, what, before);
        }
        Check.due("run", Word.run(x, "wait", "wait n 1", "wait n 2", "wait push behind", "wait n 1 pop before push behind",
                "wait n 2 pop before"), 1);
        for (int what = 0; what < 5; what++) {
            Check.looks(x, what, after);
        }
        Check.due("memory and buffers", after.toString(), before.toString());
        for (int unit = 0; unit < 3; unit++) {
            Check.due("unit of WAIT " + unit, x.instruction(unit, 0), unit);
        }
    }

    private static void illegal(Forge x, String word, boolean due) {
        Check.due("illegal: " + word, x.illegal(Word.of(word)) ? 1 : 0, due ? 1 : 0);
    }

    private static void illegalKinds() {
        Check.sentence("A word is ILLEGAL if its kind is none");
        Forge x = new Forge();
        for (int kind = 0; kind < 16; kind++) {
            long word = Word.with(Word.of("? by 1 x 1 n 0"), 0, kind);
            long wide = Word.with(word, 11, 2);
            boolean some = kind >= 1 && kind <= 8;
            Check.due("kind " + kind, x.illegal(kind == 5 ? wide : word) ? 1 : 0, some ? 0 : 1);
            Check.due("kind " + kind + " alone", x.illegal(kind) ? 1 : 0, kind == 9 ? 0 : 1);
        }
    }

    private static final String[] KINDS = {"cells", "weights", "clear", "sums", "multiply", "combine", "narrow", "store"};

    private static String behind(String kind) {
        return kind.equals("multiply") ? " n 2" : "";
    }

    private static void illegalShapes() {
        Check.sentence("if ROWS is 0, or COLUMNS 0 or above T");
        for (int t = 2; t <= 8; t++) {
            Forge x = new Forge();
            x.side(t);
            for (String kind : KINDS) {
                illegal(x, kind + " by 0 x 1" + behind(kind), true);
                illegal(x, kind + " by 1 x 1" + behind(kind), false);
                illegal(x, kind + " by 1 x 0" + behind(kind), true);
                illegal(x, kind + " by 0 x 0" + behind(kind), true);
                illegal(x, kind + " by 1 x " + t + behind(kind), false);
                illegal(x, kind + " by 1 x " + (t + 1) + behind(kind), true);
                illegal(x, kind + " by 1 x 31" + behind(kind), true);
                // 63 rows fit in SUMS and RESULTS only if the side is 4 or less.
                boolean small = kind.equals("cells") || kind.equals("weights") || kind.equals("clear");
                illegal(x, kind + " by 63 x 1" + behind(kind), !small && t > 4);
            }
        }
    }

    private static void illegalWaitShapes() {
        Check.sentence("(WAIT: if one isn't 0)");
        Forge x = new Forge();
        for (int unit = 0; unit < 3; unit++) {
            illegal(x, "wait n " + unit, false);
            illegal(x, "wait by 1 x 0 n " + unit, true);
            illegal(x, "wait by 0 x 1 n " + unit, true);
            illegal(x, "wait by 1 x 1 n " + unit, true);
            illegal(x, "wait by 32 x 0 n " + unit, true);
            illegal(x, "wait by 0 x 16 n " + unit, true);
        }
    }

    private static void illegalFields() {
        Check.sentence("if a field that its kind doesn't name isn't 0");
        Forge x = new Forge();
        // Which of ADDRESS, A, B, STRIDE, N the kinds name, from LOAD CELLS to WAIT.
        String[] named = {"at a step", "at a step", "a", "at a step", "a b step n", "a b n", "a b n", "at a step", "n"};
        for (int kind = 1; kind <= 9; kind++) {
            long plain = kind == 9 ? 9 : Word.of(KINDS[kind - 1] + " by 1 x 1" + behind(KINDS[kind - 1]));
            Check.due("kind " + kind, x.illegal(plain) ? 1 : 0, 0);
            String[] names = {"at", "a", "b", "step", "n"};
            int[] fields = {5, 8, 9, 10, 11};
            for (int k = 0; k < 5; k++) {
                boolean isNamed = (" " + named[kind - 1] + " ").contains(" " + names[k] + " ");
                for (int bit = 0; bit < Word.BITS[fields[k]] && !isNamed; bit++) {
                    long word = Word.with(plain, fields[k], 1 << bit);
                    Check.due("kind " + kind + " with " + names[k] + " " + (1 << bit), x.illegal(word) ? 1 : 0, 1);
                }
                int fine = names[k].equals("n") && kind == 5 ? 3 : 1;
                Check.due("kind " + kind + " with " + names[k] + " " + fine,
                        x.illegal(Word.with(plain, fields[k], fine)) ? 1 : 0, isNamed ? 0 : 1);
            }
        }
    }

    /** A word whose field is the greatest with which all is there. */
    private static void last(Forge x, String word, int which, int last) {
        long there = Word.with(Word.of(word), which, last);
        Check.due(word + ", field " + which + " " + last, x.illegal(there) ? 1 : 0, 0);
        if (last < Word.most(which)) {
            long beyond = Word.with(there, which, last + 1);
            Check.due(word + ", field " + which + " " + (last + 1), x.illegal(beyond) ? 1 : 0, 1);
        }
    }

    private static void illegalPlaces() {
        Check.sentence("if something that it reads or writes isn't there");
        for (int t = 2; t <= 8; t++) {
            Forge x = new Forge();
            x.side(t);
            for (int rows = 1; rows <= 7; rows += 3) {
                for (int columns = 1; columns <= t; columns += t - 1) {
                    String by = " by " + rows + " x " + columns;
                    int inBuffer = (rows - 1) * t + columns;
                    for (String kind : new String[] {"cells", "weights"}) {
                        last(x, kind + by, 8, 512 - inBuffer);
                        last(x, kind + by + " step 100", 5, 4096 - (rows - 1) * 100 - columns);
                    }
                    last(x, "clear" + by, 8, 512 - inBuffer);
                    last(x, "sums" + by, 8, 256 - inBuffer);
                    last(x, "sums" + by + " step 100", 5, 4096 - (rows - 1) * 100 - 4 * columns);
                    for (int depth = 1; depth <= t; depth += t - 1) {
                        last(x, "multiply" + by + " n " + 2 * depth, 8, 512 - (rows - 1) * t - depth);
                        last(x, "multiply" + by + " n " + (2 * depth + 1), 9, 256 - inBuffer);
                        last(x, "multiply" + by + " n " + 2 * depth, 10, 512 - (depth - 1) * t - columns);
                    }
                    for (int n = 0; n < 3; n++) {
                        last(x, "combine" + by + " n " + n, 8, 512 - inBuffer);
                        last(x, "combine" + by + " n " + n, 9, 256 - inBuffer);
                    }
                    last(x, "narrow" + by, 8, 256 - inBuffer);
                    last(x, "narrow" + by, 9, 256 - inBuffer);
                    last(x, "store" + by, 8, 256 - inBuffer);
                    last(x, "store" + by + " step 100", 5, 4096 - (rows - 1) * 100 - columns);
                }
            }
        }
        Forge x = new Forge();
        for (String kind : new String[] {"cells", "weights", "store"}) {
            illegal(x, kind + " at 3 by 5 x 1 step 1023", false);
            illegal(x, kind + " at 4 by 5 x 1 step 1023", true);
            illegal(x, kind + " by 63 x 2 step 66", false);
            illegal(x, kind + " by 63 x 2 step 67", true);
        }
        illegal(x, "multiply by 1 x 1 step 511 n 2", false);
        illegal(x, "multiply by 1 x 1 step 512 n 2", true);
        illegal(x, "multiply by 1 x 1 step 1023 n 2", true);
    }

    private static void illegalDepths() {
        Check.sentence("N: MULTIPLY, if the depth is 0 or above T");
        for (int t = 2; t <= 8; t++) {
            Forge x = new Forge();
            x.side(t);
            for (int n = 0; n < 32; n++) {
                illegal(x, "multiply by 1 x 1 n " + n, n / 2 == 0 || n / 2 > t);
            }
        }
    }

    private static void illegalNumbers() {
        Check.sentence("COMBINE above 2; WAIT above 2; of others that have none above 0");
        Forge x = new Forge();
        for (int n = 0; n < 32; n++) {
            illegal(x, "combine by 1 x 1 n " + n, n > 2);
            illegal(x, "wait n " + n, n > 2);
            illegal(x, "narrow by 1 x 1 n " + n, false);
            for (String kind : new String[] {"cells", "weights", "clear", "sums", "store"}) {
                illegal(x, kind + " by 1 x 1 n " + n, n > 0);
            }
        }
    }

    private static void illegalTokens() {
        Check.sentence("if unit 0 pops or pushes before, unit 2 behind");
        Forge x = new Forge();
        for (int kind = 0; kind < 11; kind++) {
            String word = kind < 8 ? KINDS[kind] + " by 1 x 1" + behind(KINDS[kind]) : "wait n " + (kind - 8);
            int unit = kind >= 8 ? kind - 8 : kind < 4 ? 0 : kind < 7 ? 1 : 2;
            illegal(x, word, false);
            illegal(x, word + " pop before", unit == 0);
            illegal(x, word + " push before", unit == 0);
            illegal(x, word + " pop behind", unit == 2);
            illegal(x, word + " push behind", unit == 2);
            illegal(x, word + " pop before push before", unit == 0);
            illegal(x, word + " pop behind push behind", unit == 2);
            illegal(x, word + " pop before pop behind push before push behind", unit != 1);
        }
    }
}
