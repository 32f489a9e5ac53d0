/** Sentences of the document's terms, 3 (networks, without the compiler), and promises 18 to 22 and 24. */
public final class NetworkSentencesTest {
    private static final Class<IllegalArgumentException> ARGUMENT = IllegalArgumentException.class;
    private static final Class<IndexOutOfBoundsException> INDEX = IndexOutOfBoundsException.class;
    private static final Class<UnsupportedOperationException> UNSUPPORTED = UnsupportedOperationException.class;
    private static final int MAX = Integer.MAX_VALUE;
    private static final int MIN = Integer.MIN_VALUE;

    public static void main(String[] args) {
        forms();
        cellsInMemory();
        behindAllBefore();
        tenLayers();
        endAt2048();
        kernels();
        steps();
        edges();
        outputs();
        shifts();
        parameters();
        resultForm();
        sumsWrap();
        nothingWhereThereIsNone();
        poolGreatest();
        poolNumbers();
        additionSum();
        additionForms();
        cellAsByNarrow();
        inputForm();
        inputDropsLayers();
        inputRefuses();
        convolutionNumber();
        convolutionNoTensor();
        convolutionKernelTooGreat();
        convolutionResultForm();
        convolutionParameters();
        convolutionNoRoom();
        poolExceptions();
        additionExceptions();
        formOfEach();
        formRefuses();
        reckonAll();
        reckonInOrder();
        reckonWithoutMachine();
        Check.finish();
    }

    private static Forge input(int height, int width, int channels) {
        Forge x = new Forge();
        x.input(height, width, channels);
        return x;
    }

    private static void formed(Forge x, int tensor, int height, int width, int channels, int begin) {
        int[] due = {height, width, channels, begin};
        for (int what = 0; what < 4; what++) {
            Check.due("form(" + tensor + ", " + what + ")", x.form(tensor, what), due[what]);
        }
    }

    /** Writes bytes into the memory, which is 0 there. */
    private static void bytes(Forge x, int from, int... values) {
        for (int k = 0; k < values.length; k += 4) {
            int four = 0;
            for (int j = 0; j < 4 && k + j < values.length; j++) {
                four |= (values[k + j] & 255) << 8 * j;
            }
            x.memory(from + k, four);
        }
    }

    private static void looks(Forge x, int from, int... due) {
        for (int k = 0; k < due.length; k++) {
            Check.due("byte " + (from + k), x.look(0, from + k), due[k]);
        }
    }

    /** What reckon() and the compiled program leave from a place on is the same, and as due. */
    private static void leaves(Forge x, int from, int... due) {
        Forge y = x.twin();
        x.reckon();
        looks(x, from, due);
        y.compile();
        Check.due("run", y.run(), 1);
        looks(y, from, due);
    }

    private static void forms() {
        Check.sentence("A TENSOR has a height, a width and channels, each 1 .. 63");
        int[][] fine = {{1, 1, 1}, {63, 1, 1}, {1, 63, 1}, {1, 1, 63}, {63, 32, 1}, {1, 32, 63}, {32, 1, 63}};
        for (int[] form : fine) {
            Forge x = input(form[0], form[1], form[2]);
            formed(x, 0, form[0], form[1], form[2], 0);
        }
        int[][] wrong = {{0, 1, 1}, {1, 0, 1}, {1, 1, 0}, {64, 1, 1}, {1, 64, 1}, {1, 1, 64}};
        for (int[] form : wrong) {
            Forge x = new Forge();
            Check.refusesAndKeeps("input", x, ARGUMENT, () -> x.input(form[0], form[1], form[2]));
        }
    }

    private static void cellsInMemory() {
        Check.sentence("its cell of row y, column x, channel c is byte (y * width + x) * channels + c behind its beginning in"
                + " the memory");
        // A pool takes one cell of each channel; a step of 3 takes those of every third row and column.
        Forge x = input(4, 5, 2);
        for (int k = 0; k < 40; k += 4) {
            x.memory(k, k | k + 1 << 8 | k + 2 << 16 | k + 3 << 24);
        }
        x.pool(0, 11, 3);
        leaves(x, 40, 0, 1, 6, 7, 30, 31, 36, 37, 0);
    }

    private static void behindAllBefore() {
        Check.sentence("Tensor 0, the INPUT, begins at 0, each LAYER'S behind all before");
        Forge x = input(3, 4, 2);
        formed(x, 0, 3, 4, 2, 0);
        x.pool(0, 33, 1);
        formed(x, 1, 1, 2, 2, 24);
        x.convolution(0, 11, 5, 10, 0, 0);
        formed(x, 2, 3, 4, 5, 28);
        x.addition(1, 1, 0);
        formed(x, 3, 1, 2, 2, 88);
        x.pool(3, 11, 1);
        formed(x, 4, 1, 2, 2, 92);
    }

    private static void tenLayers() {
        Check.sentence("there are at most ten layers");
        for (int last = 0; last < 3; last++) {
            Forge x = new Forge();
            for (int k = 1; k <= 9; k++) {
                x.pool(k - 1, 11, 1);
            }
            int tenth = last == 0 ? x.pool(9, 11, 1) : last == 1 ? x.convolution(9, 11, 1, 10, 0, 0) : x.addition(9, 9, 0);
            Check.due("the tenth", tenth, 10);
            Check.refusesAndKeeps("an eleventh pool", x, UNSUPPORTED, () -> x.pool(0, 11, 1));
            Check.refusesAndKeeps("an eleventh convolution", x, UNSUPPORTED, () -> x.convolution(0, 11, 1, 10, 0, 0));
            Check.refusesAndKeeps("an eleventh addition", x, UNSUPPORTED, () -> x.addition(0, 0, 0));
            Check.due("tensors", Check.tensors(x), 11);
        }
    }

    private static void endAt2048() {
        Check.sentence("all end at 2048 at most");
        Check.due("a pool that ends at 2048", input(1, 32, 32).pool(0, 11, 1), 1);
        Forge pool = input(6, 63, 3);
        Check.refusesAndKeeps("a pool that ends at 2049", pool, UNSUPPORTED, () -> pool.pool(0, 23, 1));
        Check.due("a convolution that ends at 2048", input(1, 20, 52).convolution(0, 12, 16, 11, 0, 2048), 1);
        Forge convolution = input(1, 21, 45);
        Check.refusesAndKeeps("a convolution that ends at 2049", convolution, UNSUPPORTED,
                () -> convolution.convolution(0, 11, 16, 11, 0, 2048));
        Forge addition = input(1, 22, 32);
        addition.pool(0, 12, 1);
        Check.due("an addition that ends at 2048", addition.addition(1, 1, 0), 2);
        Forge beyond = input(11, 43, 3);
        beyond.pool(0, 22, 2);
        Check.refusesAndKeeps("an addition that ends at 2049", beyond, UNSUPPORTED, () -> beyond.addition(1, 1, 0));
        formed(input(32, 32, 2), 0, 32, 32, 2, 0);
        Forge x = new Forge();
        Check.refusesAndKeeps("an input that ends at 2050", x, ARGUMENT, () -> x.input(1, 41, 50));
    }

    /** Whether a convolution of an input of 5 x 5 x 2 can be. */
    private static void convolution(boolean fine, int kernel, int outputs, int how, int shift, int address) {
        Forge x = input(5, 5, 2);
        String call = "convolution(0, " + kernel + ", " + outputs + ", " + how + ", " + shift + ", " + address + ")";
        if (fine) {
            Check.due(call, x.convolution(0, kernel, outputs, how, shift, address), 1);
        } else {
            Check.refusesAndKeeps(call, x, ARGUMENT, () -> x.convolution(0, kernel, outputs, how, shift, address));
        }
    }

    private static void kernels() {
        Check.sentence("a kernel of height and width 1 .. 3: kernel is ten times its height and its width");
        for (int kernel = -12; kernel <= 60; kernel++) {
            boolean fine = kernel >= 11 && kernel <= 33 && kernel % 10 >= 1 && kernel % 10 <= 3;
            convolution(fine, kernel, 1, 10, 0, 100);
            Forge x = input(5, 5, 2);
            int of = kernel;
            if (fine) {
                Check.due("pool " + kernel, x.pool(0, kernel, 1), 1);
                formed(x, 1, 6 - kernel / 10, 6 - kernel % 10, 2, 50);
            } else {
                Check.refusesAndKeeps("pool " + kernel, x, ARGUMENT, () -> x.pool(0, of, 1));
            }
        }
        for (int kernel : new int[] {101, 110, 111, 133, 1011, -11, -22, -33, MIN, MAX}) {
            convolution(false, kernel, 1, 10, 0, 100);
            Forge x = input(5, 5, 2);
            Check.refusesAndKeeps("pool " + kernel, x, ARGUMENT, () -> x.pool(0, kernel, 1));
        }
    }

    private static void steps() {
        Check.sentence("a step 1 .. 2: how is ten times the step and the edge");
        convolution(true, 11, 1, 10, 0, 100);
        convolution(true, 11, 1, 20, 0, 100);
        for (int how : new int[] {0, 30, 40, -10, -20, 100, 210, MIN, MAX}) {
            convolution(false, 11, 1, how, 0, 100);
        }
    }

    private static void edges() {
        Check.sentence("an edge 0 .. 1: how is ten times the step and the edge");
        convolution(true, 11, 1, 11, 0, 100);
        convolution(true, 11, 1, 21, 0, 100);
        for (int how : new int[] {1, 9, 12, 19, 22, 29, 31, -9, -1, -11, -21}) {
            convolution(false, 11, 1, how, 0, 100);
        }
    }

    private static void outputs() {
        Check.sentence("outputs 1 .. 16");
        for (int outputs : new int[] {1, 2, 15, 16}) {
            convolution(true, 11, outputs, 10, 0, 100);
        }
        for (int outputs : new int[] {0, 17, 63, -1, MIN, MAX}) {
            convolution(false, 11, outputs, 10, 0, 100);
        }
    }

    private static void shifts() {
        Check.sentence("a shift 0 .. 15, relu or not: shift is the shift, or 16 and the shift with relu");
        for (int shift = -2; shift <= 34; shift++) {
            boolean fine = shift >= 0 && shift <= 31;
            convolution(fine, 11, 1, 10, shift, 100);
            Forge x = input(2, 2, 2);
            int of = shift;
            if (fine) {
                Check.due("addition", x.addition(0, 0, shift), 1);
                Check.due("its line", Check.networkLine(x, 1), "add 0 0" + (shift % 16 == 0 ? "" : " shift " + shift % 16)
                        + (shift < 16 ? "" : " relu") + "\n");
            } else {
                Check.refusesAndKeeps("addition", x, ARGUMENT, () -> x.addition(0, 0, of));
            }
        }
        for (int shift : new int[] {47, 48, 64, -16, MIN, MAX}) {
            convolution(false, 11, 1, 10, shift, 100);
            Forge x = input(2, 2, 2);
            Check.refusesAndKeeps("addition", x, ARGUMENT, () -> x.addition(0, 0, shift));
        }
    }

    private static void parameters() {
        Check.sentence("PARAMETERS from an address on: an int of four bytes for each output (its bias), then for each row, column"
                + " and channel of the kernel, in this order, a byte for each output");
        // One cell of the tensor is 1, all others are 0: each output is its bias and one byte.
        int at = 4096 - 3 * (4 + 2 * 3 * 2);
        for (int cell = 0; cell < 12; cell++) {
            Forge x = input(2, 3, 2);
            int[] cells = new int[12];
            cells[cell] = 1;
            bytes(x, 0, cells);
            x.memory(at, 40);
            x.memory(at + 4, -40);
            x.memory(at + 8, 7);
            for (int k = 0; k < 36; k += 4) {
                x.memory(at + 12 + k, k | k + 1 << 8 | k + 2 << 16 | k + 3 << 24);
            }
            Check.due("convolution", x.convolution(0, 23, 3, 10, 0, at), 1);
            leaves(x, 12, 40 + 3 * cell, -40 + 3 * cell + 1, 7 + 3 * cell + 2, 0);
        }
    }

    private static void resultForm() {
        Check.sentence("The result has (height + 2 edges - kernel height) / step + 1 rows (the part divided not below 0, division"
                + " rounded down), columns likewise, a channel for each output");
        int[][] due = {
            // height, width, kernel, how; the result's height and width
            {3, 3, 33, 10, 1, 1}, {3, 3, 33, 20, 1, 1}, {4, 4, 33, 20, 1, 1}, {5, 5, 33, 20, 2, 2}, {6, 7, 33, 20, 2, 3},
            {1, 1, 33, 11, 1, 1}, {1, 1, 11, 11, 3, 3}, {1, 1, 11, 21, 2, 2}, {1, 1, 22, 21, 1, 1}, {1, 1, 22, 11, 2, 2},
            {2, 3, 11, 20, 1, 2}, {2, 3, 23, 10, 1, 1}, {2, 3, 23, 11, 3, 3}, {2, 3, 32, 21, 1, 2}, {61, 3, 11, 11, 63, 5},
            {3, 61, 11, 11, 5, 63}, {63, 5, 31, 11, 63, 7}, {62, 5, 21, 11, 63, 7}, {63, 3, 11, 21, 33, 3}};
        for (int[] row : due) {
            for (int outputs = 1; outputs <= 3; outputs += 2) {
                Forge x = input(row[0], row[1], 1);
                Check.due("convolution", x.convolution(0, row[2], outputs, row[3], 0, 0), 1);
                formed(x, 1, row[4], row[5], outputs, row[0] * row[1]);
            }
        }
    }

    private static void sumsWrap() {
        Check.sentence("A cell's SUM (an int that wraps, as the machine's)");
        int[][] due = {
            // bias, cell, byte; the cell of the result with shift 0, with relu
            {MAX, 1, 1, -128, 0}, {MIN, 1, -1, 127, 127}, {MAX, 0, 1, 127, 127}, {MIN, 0, 1, -128, 0},
            {MAX - 16384, -128, -128, 127, 127}, {MAX - 16383, -128, -128, -128, 0}, {MIN + 16256, -128, 127, -128, 0},
            {MIN + 16255, -128, 127, 127, 127}};
        for (int[] row : due) {
            for (int shift : new int[] {0, 16, 15, 31}) {
                Forge x = new Forge();
                bytes(x, 0, row[1]);
                x.memory(2048, row[0]);
                bytes(x, 2052, row[2]);
                x.convolution(0, 11, 1, 10, shift, 2048);
                leaves(x, 1, shift < 16 ? row[3] : row[4]);
            }
        }
    }

    private static void nothingWhereThereIsNone() {
        Check.sentence("nothing where there is none");
        Forge x = input(1, 2, 1);
        bytes(x, 0, 1, 2);
        x.memory(2048, 1);
        bytes(x, 2052, 1, 2, 3, 4, 5, 6, 7, 8, 9);
        x.convolution(0, 33, 1, 11, 0, 2048);
        leaves(x, 2, 1 + 5 * 1 + 6 * 2, 1 + 4 * 1 + 5 * 2, 0);
        // Of a kernel about a single cell only the place in its middle meets something.
        Forge y = input(1, 1, 1);
        bytes(y, 0, 3);
        y.memory(2048, 100);
        bytes(y, 2052, 1, 2, 4, 8, 7, 16, 32, 64, 99);
        y.convolution(0, 33, 1, 11, 0, 2048);
        leaves(y, 1, 100 + 7 * 3, 0);
        // Of the places of a result that is greater only the one in its middle does.
        y.input(1, 1, 1);
        y.convolution(0, 11, 1, 11, 0, 2048);
        leaves(y, 1, 100, 100, 100, 100, 103, 100, 100, 100, 100, 0);
        Forge z = input(2, 2, 1);
        bytes(z, 0, 1, 2, 3, 4);
        z.memory(2048, -3);
        bytes(z, 2052, 1, 10, 2, 20);
        z.convolution(0, 22, 1, 21, 0, 2048);
        leaves(z, 4, -3 + 20, -3 + 4, -3 + 30, -3 + 4);
    }

    private static void poolGreatest() {
        Check.sentence("POOL: .. no edge: the greatest");
        Forge x = input(3, 3, 1);
        bytes(x, 0, -128, -128, -5, -128, -128, -128, 127, -1, 0);
        x.pool(0, 22, 1);
        x.pool(0, 33, 1);
        x.pool(0, 33, 3);
        x.pool(0, 11, 2);
        x.pool(0, 13, 1);
        x.pool(0, 31, 1);
        leaves(x, 9, -128, -5, 127, 0, 127, 127, -128, -5, 127, 0, -5, -128, 127, 127, -1, 0);
    }

    private static void poolNumbers() {
        Check.sentence("POOL: a kernel 1 .. 3 high and wide, a step 1 .. 3");
        for (int step = 1; step <= 3; step++) {
            for (int high = 1; high <= 3; high++) {
                for (int wide = 1; wide <= 3; wide++) {
                    Forge x = input(5, 7, 2);
                    Check.due("pool", x.pool(0, 10 * high + wide, step), 1);
                    formed(x, 1, (5 - high) / step + 1, (7 - wide) / step + 1, 2, 70);
                }
            }
        }
        for (int step : new int[] {0, 4, -1, 10, 11, MIN, MAX}) {
            Forge x = input(5, 7, 2);
            Check.refusesAndKeeps("step " + step, x, ARGUMENT, () -> x.pool(0, 11, step));
        }
    }

    private static void additionSum() {
        Check.sentence("ADDITION of two tensors of the same form (or of one and itself): the sum of both cells, a shift, relu or"
                + " not");
        Forge x = input(1, 6, 1);
        bytes(x, 0, 127, -128, 1, -1, 64, 0);
        x.addition(0, 0, 0);
        leaves(x, 6, 127, -128, 2, -2, 127, 0);
        int[][] due = {{0, 127, -128, 2, -2, 127, 0}, {1, 127, -128, 1, -1, 64, 0}, {2, 64, -64, 1, 0, 32, 0},
            {15, 0, 0, 0, 0, 0, 0}, {16, 127, 0, 2, 0, 127, 0}, {17, 127, 0, 1, 0, 64, 0}, {18, 64, 0, 1, 0, 32, 0},
            {31, 0, 0, 0, 0, 0, 0}, {8, 1, -1, 0, 0, 1, 0}, {9, 0, 0, 0, 0, 0, 0}};
        for (int[] row : due) {
            Forge y = input(1, 6, 1);
            bytes(y, 0, 127, -128, 1, -1, 64, 0);
            y.addition(0, 0, row[0]);
            leaves(y, 6, row[1], row[2], row[3], row[4], row[5], row[6]);
        }
        Forge z = input(1, 3, 1);
        bytes(z, 0, 100, -100, 5);
        z.pool(0, 11, 1);
        z.addition(0, 1, 1);
        z.addition(2, 1, 0);
        leaves(z, 3, 100, -100, 5, 100, -100, 5, 127, -128, 10);
    }

    private static void additionForms() {
        Check.sentence("of two tensors of the same form");
        Forge x = input(4, 4, 4);
        x.pool(0, 21, 1);
        x.pool(0, 12, 1);
        x.convolution(0, 11, 3, 10, 0, 0);
        x.convolution(0, 11, 4, 10, 0, 0);
        for (int other = 1; other <= 3; other++) {
            int unlike = other;
            Check.refusesAndKeeps("unlike forms", x, ARGUMENT, () -> x.addition(0, unlike, 0));
            Check.refusesAndKeeps("unlike forms", x, ARGUMENT, () -> x.addition(unlike, 0, 0));
        }
        Check.due("like forms", x.addition(0, 4, 0), 5);
        Check.due("like forms", x.addition(4, 0, 0), 6);
        // As many cells, but another form.
        Forge y = input(2, 4, 1);
        y.convolution(0, 12, 1, 21, 0, 100);
        formed(y, 1, 2, 3, 1, 8);
        Forge z = input(3, 2, 1);
        z.convolution(0, 32, 2, 11, 0, 100);
        formed(z, 1, 3, 3, 2, 6);
        z.convolution(1, 12, 3, 10, 0, 100);
        formed(z, 2, 3, 2, 3, 24);
        z.convolution(1, 21, 3, 10, 0, 100);
        formed(z, 3, 2, 3, 3, 42);
        Check.refusesAndKeeps("3 x 2 x 3 and 2 x 3 x 3", z, ARGUMENT, () -> z.addition(2, 3, 0));
        Check.refusesAndKeeps("3 x 3 x 2 and 3 x 2 x 3", z, ARGUMENT, () -> z.addition(1, 2, 0));
    }

    private static void cellAsByNarrow() {
        Check.sentence("The cell comes of the sum as by NARROW");
        int[] sums = {0, 1, -1, 127, 128, -128, -129, 1000, -1000, MAX, MIN, 16384, -16384, -16385, 16383, 4194303, 4177920};
        for (int sum : sums) {
            for (int shift = 0; shift < 32; shift++) {
                Forge x = new Forge();
                x.memory(2048, sum);
                x.convolution(0, 11, 1, 10, shift, 2048);
                Forge y = x.twin();
                x.reckon();
                Check.due("run", Word.run(y, "sums at 2048 by 1 x 1 push behind", "narrow by 1 x 1 n " + shift + " pop before"), 1);
                Check.due("sum " + sum + ", shift " + shift, x.look(0, 1), y.look(4, 0));
            }
        }
    }

    private static void inputForm() {
        Check.sentence("input: The input's form");
        Forge x = new Forge();
        for (int[] form : new int[][] {{2, 3, 4}, {63, 32, 1}, {1, 1, 1}, {1, 1, 63}}) {
            x.input(form[0], form[1], form[2]);
            formed(x, 0, form[0], form[1], form[2], 0);
        }
    }

    private static void inputDropsLayers() {
        Check.sentence("input: no layers");
        Forge x = input(4, 4, 1);
        x.pool(0, 22, 1);
        x.pool(1, 11, 1);
        x.place();
        x.input(4, 4, 1);
        Check.due("network", Check.networkAndPlaces(x), "input 4 x 4 x 1\n0 \n");
        Check.due("a first layer", x.pool(0, 11, 1), 1);
        formed(x, 1, 4, 4, 1, 16);
        Check.refuses("the second is gone", INDEX, () -> x.pool(2, 11, 1));
    }

    private static void inputRefuses() {
        Check.sentence("input: IllegalArgumentException if a number is not 1 .. 63, or it would end beyond 2048");
        int[][] wrong = {{0, 5, 5}, {5, 0, 5}, {5, 5, 0}, {64, 1, 1}, {1, 64, 1}, {1, 1, 64}, {-1, 5, 5}, {5, -1, 5}, {5, 5, -1},
            {-5, -5, 5}, {41, 50, 1}, {1, 41, 50}, {50, 1, 41}, {63, 63, 63}, {63, 33, 1}, {MIN, 1, 1}, {1, MIN, 1}, {1, 1, MIN},
            {MAX, 1, 1}, {1, MAX, 1}, {1, 1, MAX}, {65536, 65536, 1}, {46341, 46341, 2}, {MIN, MIN, 1}, {MIN, 2, 63}};
        for (int[] form : wrong) {
            Forge x = input(3, 3, 3);
            x.pool(0, 22, 1);
            Check.refusesAndKeeps("input(" + form[0] + ", " + form[1] + ", " + form[2] + ")", x, ARGUMENT,
                    () -> x.input(form[0], form[1], form[2]));
        }
        for (int[] form : new int[][] {{32, 32, 2}, {63, 32, 1}, {1, 33, 62}, {2, 32, 32}}) {
            formed(input(form[0], form[1], form[2]), 0, form[0], form[1], form[2], 0);
        }
    }

    private static void convolutionNumber() {
        Check.sentence("convolution: its tensor's number");
        Forge x = input(3, 3, 1);
        for (int k = 1; k <= 10; k++) {
            Check.due("number", x.convolution(k - 1, 11, 1, 10, 0, 100), k);
        }
    }

    private static void convolutionNoTensor() {
        Check.sentence("convolution: IndexOutOfBoundsException if there is no such tensor");
        Forge x = input(3, 3, 1);
        for (int tensor : new int[] {-1, 1, 2, 10, 11, 12, MIN, MAX}) {
            Check.refusesAndKeeps("of tensor " + tensor, x, INDEX, () -> x.convolution(tensor, 11, 1, 10, 0, 100));
        }
        x.convolution(0, 11, 1, 10, 0, 100);
        Check.due("of tensor 1", x.convolution(1, 11, 1, 10, 0, 100), 2);
        Check.refusesAndKeeps("of tensor 3", x, INDEX, () -> x.convolution(3, 11, 1, 10, 0, 100));
        x.side(2);
        Check.refusesAndKeeps("of tensor 1 behind side()", x, INDEX, () -> x.convolution(1, 11, 1, 10, 0, 100));
    }

    private static void convolutionKernelTooGreat() {
        Check.sentence("convolution: IllegalArgumentException if the kernel is greater than the tensor with its edges");
        for (int high = 1; high <= 3; high++) {
            for (int wide = 1; wide <= 3; wide++) {
                for (int edge = 0; edge < 2; edge++) {
                    for (int kernelHigh = 1; kernelHigh <= 3; kernelHigh++) {
                        for (int kernelWide = 1; kernelWide <= 3; kernelWide++) {
                            for (int step = 1; step <= 2; step++) {
                                Forge x = input(high, wide, 1);
                                boolean fine = kernelHigh <= high + 2 * edge && kernelWide <= wide + 2 * edge;
                                int kernel = 10 * kernelHigh + kernelWide;
                                int how = 10 * step + edge;
                                if (fine) {
                                    Check.due("kernel " + kernel, x.convolution(0, kernel, 1, how, 0, 0), 1);
                                } else {
                                    Check.refuses("kernel " + kernel, ARGUMENT, () -> x.convolution(0, kernel, 1, how, 0, 0));
                                    Check.due("tensors", Check.tensors(x), 1);
                                }
                            }
                        }
                    }
                }
            }
        }
    }

    private static void convolutionResultForm() {
        Check.sentence("convolution: IllegalArgumentException if the result has a form that a tensor can't have");
        int[][] rows = {
            // height or width, kernel that way; fine or not, with step 1 and an edge
            {63, 1, 0}, {63, 2, 0}, {63, 3, 1}, {62, 1, 0}, {62, 2, 1}, {61, 1, 1}, {61, 3, 1}};
        for (int[] row : rows) {
            Forge high = input(row[0], 1, 1);
            Forge wide = input(1, row[0], 1);
            if (row[2] == 1) {
                Check.due("high", high.convolution(0, 10 * row[1] + 1, 1, 11, 0, 0), 1);
                Check.due("wide", wide.convolution(0, 10 + row[1], 1, 11, 0, 0), 1);
            } else {
                Check.refusesAndKeeps("too high", high, ARGUMENT, () -> high.convolution(0, 10 * row[1] + 1, 1, 11, 0, 0));
                Check.refusesAndKeeps("too wide", wide, ARGUMENT, () -> wide.convolution(0, 10 + row[1], 1, 11, 0, 0));
            }
            Check.due("high with step 2", input(row[0], 1, 1).convolution(0, 10 * row[1] + 1, 1, 21, 0, 0), 1);
            Check.due("without an edge", input(row[0], 1, 1).convolution(0, 10 * row[1] + 1, 1, 10, 0, 0), 1);
        }
        // The form comes ahead of the end beyond 2048.
        Forge x = input(63, 32, 1);
        Check.refusesAndKeeps("too high and beyond 2048", x, ARGUMENT, () -> x.convolution(0, 11, 16, 11, 0, 0));
    }

    private static void convolutionParameters() {
        Check.sentence("convolution: IllegalArgumentException if the parameters aren't all in the memory");
        int[][] rows = {
            // channels, kernel, outputs; how many bytes
            {1, 11, 1, 5}, {1, 11, 16, 80}, {2, 33, 1, 22}, {63, 33, 7, 3997}, {63, 11, 16, 1072}, {5, 23, 3, 102},
            {5, 32, 3, 102}, {7, 33, 16, 1072}};
        for (int[] row : rows) {
            for (int address : new int[] {0, 1, 4096 - row[3]}) {
                if (address <= 4096 - row[3]) {
                    Forge x = input(3, 3, row[0]);
                    Check.due("at " + address, x.convolution(0, row[1], row[2], 10, 0, address), 1);
                }
            }
            for (int address : new int[] {-1, 4096 - row[3] + 1, 4095, 4096, 9999, MIN, MAX, MAX - 3}) {
                Forge x = input(3, 3, row[0]);
                Check.refusesAndKeeps("at " + address, x, ARGUMENT, () -> x.convolution(0, row[1], row[2], 10, 0, address));
            }
        }
        Forge x = input(3, 3, 63);
        Check.refusesAndKeeps("more than the memory", x, ARGUMENT, () -> x.convolution(0, 33, 8, 10, 0, 0));
    }

    private static void convolutionNoRoom() {
        Check.sentence("convolution: UnsupportedOperationException if there are ten layers, or the result would end beyond 2048");
        Forge ten = new Forge();
        for (int k = 0; k < 10; k++) {
            ten.convolution(0, 11, 1, 10, 0, 100);
        }
        Check.refusesAndKeeps("an eleventh", ten, UNSUPPORTED, () -> ten.convolution(0, 11, 1, 10, 0, 100));
        Forge x = input(1, 21, 45);
        Check.refusesAndKeeps("up to 2049", x, UNSUPPORTED, () -> x.convolution(0, 11, 16, 11, 0, 0));
        Check.due("up to less", x.convolution(0, 11, 15, 11, 0, 0), 1);
        Check.refusesAndKeeps("one more", x, UNSUPPORTED, () -> x.convolution(1, 11, 16, 10, 0, 0));
    }

    private static void poolExceptions() {
        Check.sentence("pool: Exceptions as for convolution()");
        Forge x = input(3, 2, 4);
        for (int tensor : new int[] {-1, 1, 11, MIN, MAX}) {
            Check.refusesAndKeeps("of tensor " + tensor, x, INDEX, () -> x.pool(tensor, 11, 1));
        }
        for (int kernel : new int[] {13, 23, 33}) {
            Check.refusesAndKeeps("a kernel that is too wide", x, ARGUMENT, () -> x.pool(0, kernel, 1));
        }
        x.input(2, 3, 4);
        for (int kernel : new int[] {31, 32, 33}) {
            Check.refusesAndKeeps("a kernel that is too high", x, ARGUMENT, () -> x.pool(0, kernel, 1));
        }
        Check.due("one as great as the tensor", x.pool(0, 23, 3), 1);
        formed(x, 1, 1, 1, 4, 24);
        for (int k = 2; k <= 10; k++) {
            Check.due("its number", x.pool(k - 1, 11, 1), k);
        }
        Check.refusesAndKeeps("an eleventh", x, UNSUPPORTED, () -> x.pool(0, 11, 1));
        Forge y = input(6, 63, 3);
        Check.refusesAndKeeps("up to 2049", y, UNSUPPORTED, () -> y.pool(0, 23, 1));
        Check.due("up to less", y.pool(0, 33, 1), 1);
    }

    private static void additionExceptions() {
        Check.sentence("addition: Exceptions as for that; IllegalArgumentException also if the forms are unlike");
        Forge x = input(2, 2, 2);
        for (int tensor : new int[] {-1, 1, 11, MIN, MAX}) {
            Check.refusesAndKeeps("of " + tensor + " and 0", x, INDEX, () -> x.addition(tensor, 0, 0));
            Check.refusesAndKeeps("of 0 and " + tensor, x, INDEX, () -> x.addition(0, tensor, 0));
            Check.refusesAndKeeps("of " + tensor + " twice", x, INDEX, () -> x.addition(tensor, tensor, 0));
        }
        x.pool(0, 21, 1);
        Check.refusesAndKeeps("unlike forms", x, ARGUMENT, () -> x.addition(0, 1, 0));
        for (int k = 2; k <= 10; k++) {
            Check.due("its number", x.addition(1, k == 2 ? 1 : k - 1, 0), k);
            formed(x, k, 1, 2, 2, 8 + 4 * (k - 1));
        }
        Check.refusesAndKeeps("an eleventh", x, UNSUPPORTED, () -> x.addition(0, 0, 0));
        Forge y = input(11, 43, 3);
        y.pool(0, 22, 2);
        Check.refusesAndKeeps("up to 2049", y, UNSUPPORTED, () -> y.addition(1, 1, 0));
        Forge z = input(32, 32, 1);
        Check.due("up to 2048", z.addition(0, 0, 0), 1);
    }

    private static void formOfEach() {
        Check.sentence("form: 0 the height, 1 the width, 2 the channels of a tensor, 3 where it begins");
        Forge x = input(2, 3, 5);
        x.convolution(0, 11, 7, 11, 0, 0);
        formed(x, 0, 2, 3, 5, 0);
        formed(x, 1, 4, 5, 7, 30);
        x.pool(1, 12, 2);
        formed(x, 2, 2, 2, 7, 170);
    }

    private static void formRefuses() {
        Check.sentence("form: IndexOutOfBoundsException if there is none such; IllegalArgumentException for another what");
        Forge x = input(2, 3, 5);
        x.pool(0, 11, 1);
        for (int tensor : new int[] {-1, 2, 10, 11, 12, MIN, MAX}) {
            Check.refusesAndKeeps("form(" + tensor + ", 0)", x, INDEX, () -> x.form(tensor, 0));
            Check.refuses("form(" + tensor + ", 4)", INDEX, () -> x.form(tensor, 4));
        }
        for (int what : new int[] {-1, 4, 5, MIN, MAX}) {
            Check.refusesAndKeeps("form(0, " + what + ")", x, ARGUMENT, () -> x.form(0, what));
            Check.refusesAndKeeps("form(1, " + what + ")", x, ARGUMENT, () -> x.form(1, what));
        }
        // A layer that was refused has no form.
        Check.refuses("pool", ARGUMENT, () -> x.pool(0, 11, 4));
        Check.refuses("form(2, 0)", INDEX, () -> x.form(2, 0));
    }

    private static void reckonAll() {
        Check.sentence("reckon: Sets all layers' tensors by their definitions alone, one after the other");
        Forge x = input(2, 2, 1);
        bytes(x, 0, 1, 2, 3, 4);
        x.memory(60, 0x55555555);
        String before = Check.all(x);
        x.reckon();
        Check.due("without layers nothing", Check.all(x), before);
        x.pool(0, 21, 1);
        x.addition(1, 1, 0);
        x.convolution(2, 12, 1, 10, 0, 2048);
        x.memory(2048, -5);
        bytes(x, 2052, 2, 3);
        leaves(x, 0, 1, 2, 3, 4, 3, 4, 6, 8, -5 + 12 + 24, 0);
        Check.due("what is behind stays", x.look(0, 60), 0x55);
    }

    private static void reckonInOrder() {
        Check.sentence("their cells by rows, columns and channels, each written at once (what is read behind it is read as it is"
                + " then)");
        // Bias at 2 to 5, byte at 6; cells at 2 and 3: the first is 5 + 4, then the bias is 9, and the second 9 + 4.
        Forge x = input(1, 2, 1);
        bytes(x, 0, 1, 1);
        x.convolution(0, 11, 1, 10, 0, 2);
        bytes(x, 2, 5, 0, 0, 0, 4);
        x.reckon();
        looks(x, 2, 9, 13, 0, 0, 4);
        // Biases at 1 to 4 and 5 to 8, bytes at 9 and 10; the cells at 1 and 2 touch the first one's bias alone.
        Forge y = input(1, 1, 1);
        bytes(y, 0, 1);
        y.convolution(0, 11, 2, 10, 0, 1);
        bytes(y, 1, 7, 0, 0, 0, 8, 0, 0, 0, 2, 3);
        y.reckon();
        looks(y, 1, 9, 11, 0, 0, 8);
        // The second output's bias has the first output's cell of the same place in it.
        Forge z = input(1, 1, 1);
        bytes(z, 0, 2);
        z.convolution(0, 11, 2, 10, 0, 4096 - 10);
        z.pool(1, 11, 1);
        z.convolution(0, 11, 3, 10, 0, 0);
        // The last one's biases are at 0, 4 and 8, its bytes at 12; its cells at 5, 6 and 7, in the second bias.
        bytes(z, 12, 1, 1, 1);
        z.reckon();
        looks(z, 5, 4, 127, 2);
        // Bias at 3 to 6 (the tensor's last cell and cells 0, 1, 2), byte at 7 (cell 3): 4 + 10 * 1; then with cell 0
        // in the bias 127.
        Forge w = input(2, 2, 1);
        bytes(w, 0, 1, 2, 3, 4);
        w.convolution(0, 11, 1, 10, 0, 3);
        bytes(w, 4, 0, 0, 0, 10);
        w.reckon();
        looks(w, 3, 4, 14, 127, 127, 127);
    }

    private static void reckonWithoutMachine() {
        Check.sentence("in the memory, without the machine");
        Forge x = input(2, 2, 1);
        bytes(x, 0, 1, 2, 3, 4);
        Word.run(x, "cells by 1 x 2 push behind", "combine by 1 x 2 pop before", "narrow by 1 x 2", "weights by 1 x 2");
        x.pool(0, 11, 1);
        StringBuilder before = new StringBuilder(Check.words(x) + Check.latestRun(x) + Check.networkAndPlaces(x));
        StringBuilder after = new StringBuilder();
        for (int what = 1; what < 5; what++) {
            Check.looks(x, what, before);
        }
        x.reckon();
        after.append(Check.words(x)).append(Check.latestRun(x)).append(Check.networkAndPlaces(x));
        for (int what = 1; what < 5; what++) {
            Check.looks(x, what, after);
        }
        Check.due("buffers, program, run and network", after.toString(), before.toString());
        looks(x, 4, 1, 2, 3, 4, 0);
    }
}
