import java.util.ArrayList;

/** Sentences of the document's terms, 3 (the compiler), and promise 23. */
public final class CompilerSentencesTest {
    private static final Class<UnsupportedOperationException> UNSUPPORTED = UnsupportedOperationException.class;

    public static void main(String[] args) {
        inOrder();
        channelBlocks();
        rowsOfTiles();
        partsOfRows();
        additionIsOneRow();
        convolutionGroups();
        poolGroups();
        additionGroups();
        halvesOfBuffers();
        loadSums();
        loadWeights();
        clearRow();
        clearColumns();
        clearColumnsOfParts();
        columnsAloneCleared();
        loadCellsStride();
        poolChannels();
        additionLoads();
        loadsPop();
        multiplies();
        combines();
        workPushes();
        narrows();
        stores();
        waitsOfUnit1();
        waitsOfUnit0();
        noRoom();
        compiles();
        withoutLayers();
        Check.finish();
    }

    private static Forge made(int side, int height, int width, int channels) {
        Forge x = new Forge();
        x.side(side);
        x.input(height, width, channels);
        return x;
    }

    private static ArrayList<String> lines(Forge x) {
        x.compile();
        ArrayList<String> lines = new ArrayList<>();
        for (String line : Check.program(x).split("\n")) {
            lines.add(line);
        }
        return lines;
    }

    /** The program's lines that begin so. */
    private static ArrayList<String> lines(Forge x, String kind) {
        ArrayList<String> some = new ArrayList<>();
        for (String line : lines(x)) {
            if (line.startsWith(kind)) {
                some.add(line);
            }
        }
        return some;
    }

    private static void due(Forge x, String kind, String... due) {
        Check.due("lines", String.join("\n", lines(x, kind)), String.join("\n", due));
    }

    private static void inOrder() {
        Check.sentence("THE COMPILER makes of all layers, in order, a program: of each layer tile by tile, of each tile group by"
                + " group (the loads, then what unit 1 does with them), then NARROW and STORE; at last its WAITs");
        Forge x = made(2, 1, 1, 3);
        x.pool(0, 11, 1);
        x.addition(1, 1, 0);
        due(x, "",
                "cells by 1 x 2 step 3 push behind", "combine by 1 x 2 pop before",
                "narrow by 1 x 2 push before push behind", "store at 3 by 1 x 2 step 3 pop before push before",
                "cells at 2 by 1 x 1 a 256 step 3 push behind", "combine by 1 x 1 a 256 b 128 pop before",
                "narrow by 1 x 1 a 128 b 128 push before push behind",
                "store at 5 by 1 x 1 a 128 step 3 pop before push before",
                "wait n 1 pop behind", "wait n 1 pop behind push before",
                "wait pop behind", "wait pop behind", "wait pop behind",
                "cells at 3 by 1 x 2 step 3 push behind", "combine by 1 x 2 pop before push before",
                "cells at 3 by 1 x 2 a 256 step 3 push behind", "combine by 1 x 2 a 256 n 1 pop before",
                "narrow by 1 x 2 push before push behind", "store at 6 by 1 x 2 step 3 pop before push before",
                "cells at 5 by 1 x 1 step 3 pop behind push behind", "combine by 1 x 1 b 128 pop before push before",
                "cells at 5 by 1 x 1 a 256 step 3 pop behind push behind", "combine by 1 x 1 a 256 b 128 n 1 pop before",
                "narrow by 1 x 1 a 128 b 128 push before push behind",
                "store at 8 by 1 x 1 a 128 step 3 pop before push before",
                "wait n 1 pop behind", "wait n 1 pop behind push before",
                "wait pop behind", "wait pop behind", "wait pop behind");
    }

    private static void channelBlocks() {
        Check.sentence("A layer's result is cut into TILES: channels into blocks of T; the last ones may be less");
        for (int t = 2; t <= 8; t++) {
            for (int channels = 1; channels <= 2 * t + 1; channels++) {
                Forge x = made(t, 1, 1, channels);
                x.pool(0, 11, 1);
                ArrayList<String> stores = lines(x, "store");
                Check.due("T " + t + ", channels " + channels, stores.size(), (channels + t - 1) / t);
                for (int block = 0; block < stores.size(); block++) {
                    int columns = Math.min(t, channels - block * t);
                    Check.holds(stores.get(block) + ", T " + t,
                            stores.get(block).startsWith("store at " + (channels + block * t) + " by 1 x " + columns + " "));
                }
            }
        }
    }

    private static void rowsOfTiles() {
        Check.sentence("in each block rows from the first on");
        Forge x = made(2, 3, 2, 3);
        x.pool(0, 11, 1);
        due(x, "store", "store at 18 by 2 x 2 step 3 pop before push before",
                "store at 24 by 2 x 2 a 128 step 3 pop before push before",
                "store at 30 by 2 x 2 step 3 pop before push before",
                "store at 20 by 2 x 1 a 128 step 3 pop before push before",
                "store at 26 by 2 x 1 step 3 pop before push before",
                "store at 32 by 2 x 1 a 128 step 3 pop before push before");
    }

    private static void partsOfRows() {
        Check.sentence("in each row parts of 128 / T places (63 if that is more); the last ones may be less");
        int[] parts = {0, 0, 63, 42, 32, 25, 21, 18, 16};
        for (int t = 2; t <= 8; t++) {
            for (int width : new int[] {1, parts[t] - 1, parts[t], parts[t] + 1, 2 * parts[t], 2 * parts[t] + 1, 63}) {
                if (width > 63) {
                    continue;
                }
                Forge x = made(t, 2, width, 1);
                x.pool(0, 11, 1);
                ArrayList<String> stores = lines(x, "store");
                int inRow = (width + parts[t] - 1) / parts[t];
                Check.due("T " + t + ", width " + width, stores.size(), 2 * inRow);
                for (int k = 0; k < stores.size(); k++) {
                    int start = k % inRow * parts[t];
                    int at = 2 * width + k / inRow * width + start;
                    int places = Math.min(parts[t], width - start);
                    Check.holds(stores.get(k) + ", T " + t, stores.get(k).startsWith("store at " + at + " by " + places + " x 1"));
                }
                Forge y = x.twin();
                Check.due("run", y.run(), 1);
            }
        }
    }

    private static void additionIsOneRow() {
        Check.sentence("(an addition's tensors count as one row of all their places)");
        int[] parts = {0, 0, 63, 42, 32, 25, 21, 18, 16};
        for (int t = 2; t <= 8; t++) {
            for (int height : new int[] {1, 3, parts[t] / 3, parts[t] / 3 + 1, 21, 22, 43, 63}) {
                Forge x = made(t, height, 3, 1);
                x.addition(0, 0, 0);
                ArrayList<String> stores = lines(x, "store");
                int all = 3 * height;
                Check.due("T " + t + ", places " + all, stores.size(), (all + parts[t] - 1) / parts[t]);
                for (int k = 0; k < stores.size(); k++) {
                    int places = Math.min(parts[t], all - k * parts[t]);
                    Check.holds(stores.get(k) + ", T " + t,
                            stores.get(k).startsWith("store at " + (all + k * parts[t]) + " by " + places + " x 1"));
                }
            }
        }
    }

    private static void convolutionGroups() {
        Check.sentence("GROUPS: of a convolution for each kernel row, kernel column, and block of T channels of the tensor (the"
                + " last one of the three changing first)");
        for (int t = 2; t <= 8; t++) {
            for (int channels : new int[] {1, t - 1, t, t + 1, 2 * t, 2 * t + 1}) {
                Forge x = made(t, 2, 3, channels);
                x.convolution(0, 23, 1, 10, 0, 2048);
                ArrayList<String> weights = lines(x, "weights");
                int blocks = (channels + t - 1) / t;
                Check.due("T " + t + ", channels " + channels, weights.size(), 6 * blocks);
                ArrayList<String> cells = lines(x, "cells");
                for (int k = 0; k < weights.size(); k++) {
                    int cell = k / blocks;
                    int block = k % blocks * t;
                    int depth = Math.min(t, channels - block);
                    int from = cell * channels + block;
                    Check.holds(weights.get(k) + ", T " + t,
                            weights.get(k).startsWith("weights at " + (2052 + from) + " by " + depth + " x 1"));
                    Check.holds(cells.get(k) + ", T " + t,
                            cells.get(k).startsWith("cells" + (from == 0 ? "" : " at " + from) + " by 1 x " + depth));
                }
            }
        }
    }

    private static void poolGroups() {
        Check.sentence("of a pool for each kernel row and column");
        for (int high = 1; high <= 3; high++) {
            for (int wide = 1; wide <= 3; wide++) {
                Forge x = made(2, 3, 3, 2);
                x.pool(0, 10 * high + wide, 3);
                ArrayList<String> cells = lines(x, "cells");
                Check.due("groups", cells.size(), high * wide);
                for (int k = 0; k < cells.size(); k++) {
                    int at = (k / wide * 3 + k % wide) * 2;
                    Check.holds(cells.get(k), cells.get(k).startsWith("cells" + (at == 0 ? "" : " at " + at) + " by 1 x 2"));
                }
            }
        }
    }

    private static void additionGroups() {
        Check.sentence("of an addition two");
        Forge x = made(2, 1, 1, 2);
        x.pool(0, 11, 1);
        x.addition(1, 0, 0);
        due(x, "cells", "cells by 1 x 2 step 2 push behind", "cells at 2 by 1 x 2 step 2 push behind",
                "cells by 1 x 2 a 256 step 2 push behind");
    }

    private static void halvesOfBuffers() {
        Check.sentence("Groups are numbered through the layer; group j has CELLS from 256 (j mod 2) on, weights likewise; tile i"
                + " SUMS and RESULTS from 128 (i mod 2) on");
        Forge x = made(2, 1, 3, 1);
        x.convolution(0, 13, 5, 10, 0, 100);
        // Three groups in each of three tiles: the tile's first group is 0, 3, 6.
        due(x, "multiply", "multiply by 1 x 2 n 3 pop before push before",
                "multiply by 1 x 2 a 256 step 256 n 3 pop before push before", "multiply by 1 x 2 n 3 pop before",
                "multiply by 1 x 2 a 256 b 128 step 256 n 3 pop before push before",
                "multiply by 1 x 2 b 128 n 3 pop before push before",
                "multiply by 1 x 2 a 256 b 128 step 256 n 3 pop before",
                "multiply by 1 x 1 n 3 pop before push before",
                "multiply by 1 x 1 a 256 step 256 n 3 pop before push before", "multiply by 1 x 1 n 3 pop before");
        due(x, "weights", "weights at 120 by 1 x 2 step 5", "weights at 125 by 1 x 2 a 256 step 5",
                "weights at 130 by 1 x 2 step 5 pop behind", "weights at 122 by 1 x 2 a 256 step 5",
                "weights at 127 by 1 x 2 step 5 pop behind", "weights at 132 by 1 x 2 a 256 step 5 pop behind",
                "weights at 124 by 1 x 1 step 5", "weights at 129 by 1 x 1 a 256 step 5 pop behind",
                "weights at 134 by 1 x 1 step 5 pop behind");
        due(x, "narrow", "narrow by 1 x 2 push before push behind", "narrow by 1 x 2 a 128 b 128 push before push behind",
                "narrow by 1 x 1 pop behind push before push behind");
        // The next layer begins with group 0 and tile 0.
        x.pool(1, 11, 1);
        Check.due("the next layer's first", lines(x, "combine").get(0), "combine by 1 x 2 pop before");
    }

    private static void loadSums() {
        Check.sentence("a tile's first of a convolution LOAD SUMS, P rows, W columns, from the biases of the tile's channels,"
                + " stride 0");
        Forge x = made(3, 1, 2, 1);
        x.convolution(0, 12, 7, 11, 0, 100);
        due(x, "sums", "sums at 100 by 3 x 3", "sums at 100 by 3 x 3 a 128 pop behind", "sums at 100 by 3 x 3 pop behind",
                "sums at 112 by 3 x 3 a 128 pop behind", "sums at 112 by 3 x 3 pop behind",
                "sums at 112 by 3 x 3 a 128 pop behind", "sums at 124 by 3 x 1 pop behind",
                "sums at 124 by 3 x 1 a 128 pop behind", "sums at 124 by 3 x 1 pop behind");
        Forge y = made(2, 1, 1, 2);
        y.pool(0, 11, 1);
        y.addition(0, 0, 0);
        Check.due("none of a pool or an addition", lines(y, "sums").size(), 0);
    }

    private static void loadWeights() {
        Check.sentence("of a convolution LOAD WEIGHTS, D rows, W columns, stride the outputs (from the place of the byte of the"
                + " kernel's row and column, the block's first channel and the tile's first output on)");
        Forge x = made(2, 1, 2, 3);
        x.convolution(0, 12, 3, 10, 0, 4096 - 3 * (4 + 6));
        int from = 4096 - 18;
        due(x, "weights", "weights at " + from + " by 2 x 2 step 3", "weights at " + (from + 6) + " by 1 x 2 a 256 step 3",
                "weights at " + (from + 9) + " by 2 x 2 step 3 pop behind",
                "weights at " + (from + 15) + " by 1 x 2 a 256 step 3 pop behind",
                "weights at " + (from + 2) + " by 2 x 1 step 3", "weights at " + (from + 8) + " by 1 x 1 a 256 step 3 pop behind",
                "weights at " + (from + 11) + " by 2 x 1 step 3 pop behind",
                "weights at " + (from + 17) + " by 1 x 1 a 256 step 3 pop behind");
        Forge y = made(2, 1, 1, 2);
        y.pool(0, 11, 1);
        y.addition(0, 0, 0);
        Check.due("none of a pool or an addition", lines(y, "weights").size(), 0);
    }

    private static void clearRow() {
        Check.sentence("CLEAR CELLS of P rows and D columns if the tensor has no such row");
        Forge x = made(2, 1, 3, 3);
        x.convolution(0, 31, 1, 11, 0, 100);
        // The row ahead, the row, the row behind: five places, for the edge has two columns.
        due(x, "c", "clear by 5 x 2 push behind", "clear by 5 x 1 a 256 push behind",
                "clear by 1 x 2", "cells by 3 x 2 a 2 step 3", "clear by 1 x 2 a 8 push behind",
                "clear by 1 x 1 a 256", "cells at 2 by 3 x 1 a 258 step 3", "clear by 1 x 1 a 264 push behind",
                "clear by 5 x 2 push behind", "clear by 5 x 1 a 256 push behind");
        Forge y = made(2, 2, 1, 1);
        y.convolution(0, 11, 1, 21, 0, 100);
        // Rows -1 and 1, columns -1 and 1 of a tensor of two rows and one column.
        due(y, "c", "clear by 2 x 1 push behind", "clear by 1 x 1 a 256", "clear by 1 x 1 a 258 push behind");
    }

    private static void clearColumns() {
        Check.sentence("otherwise for the places at the beginning whose column isn't there CLEAR CELLS, for those whose is there"
                + " LOAD CELLS, for those at the end CLEAR CELLS, each only if there are such places");
        Forge x = made(2, 1, 4, 1);
        x.convolution(0, 13, 1, 11, 0, 100);
        ArrayList<String> all = lines(x, "c");
        // Of the middle tile: kernel columns -1, 0, 1 about four places.
        Check.due("lines", all.size(), 3 + 5 + 3);
        Check.due("the middle tile", String.join("\n", all.subList(3, 8)),
                "clear by 1 x 1 a 256\ncells by 3 x 1 a 258 step 1 push behind\ncells by 4 x 1 step 1 push behind\n"
                + "cells at 1 by 3 x 1 a 256 step 1\nclear by 1 x 1 a 262 push behind");
        Forge y = made(2, 2, 4, 1);
        y.convolution(0, 13, 1, 21, 0, 100);
        // Step 2: rows -1 and 1, two places; columns -1 and 1, 0 and 2, 1 and 3.
        ArrayList<String> two = lines(y, "c");
        Check.due("step 2", String.join("\n", two.subList(3, two.size())),
                "clear by 1 x 1 a 256\ncells at 5 by 1 x 1 a 258 step 2 push behind\ncells at 4 by 2 x 1 step 2 push behind\n"
                + "cells at 5 by 2 x 1 a 256 step 2 push behind");
        Forge z = made(2, 2, 5, 1);
        z.convolution(0, 13, 1, 21, 0, 100);
        // Three places; columns -1, 1 and 3; 0, 2 and 4; 1, 3 and 5.
        ArrayList<String> three = lines(z, "c");
        Check.due("step 2, odd", String.join("\n", three.subList(3, three.size())),
                "clear by 1 x 1 a 256\ncells at 6 by 2 x 1 a 258 step 2 push behind\ncells at 5 by 3 x 1 step 2 push behind\n"
                + "cells at 6 by 2 x 1 a 256 step 2\nclear by 1 x 1 a 260 push behind");
    }

    private static void clearColumnsOfParts() {
        Check.sentence("for the tile's places: parts of a row clear at its own beginning and end alone");
        // Side 8: parts of 16 places; 36 columns of the result.
        Forge x = made(8, 1, 34, 1);
        x.convolution(0, 11, 1, 11, 0, 100);
        ArrayList<String> all = lines(x, "c");
        Check.due("three clears, the middle row's parts, three clears", String.join("\n", all.subList(3, all.size() - 3)),
                "clear by 1 x 1 a 256\ncells by 15 x 1 a 264 step 1 push behind\n"
                + "cells at 15 by 16 x 1 step 1 push behind\n"
                + "cells at 31 by 3 x 1 a 256 step 1\nclear by 1 x 1 a 280 push behind");
        // 17 columns of the result: the last part is the edge alone.
        Forge y = made(8, 1, 15, 1);
        y.convolution(0, 11, 1, 11, 0, 100);
        ArrayList<String> two = lines(y, "c");
        Check.due("the middle row's parts", String.join("\n", two.subList(2, two.size() - 2)),
                "clear by 1 x 1\ncells by 15 x 1 a 8 step 1 push behind\nclear by 1 x 1 a 256 push behind");
    }

    private static void columnsAloneCleared() {
        Check.sentence("each only if there are such places: where no column is there");
        // A kernel three wide about one column: its first column meets the edge ahead, its last the edge behind.
        Forge x = made(2, 1, 1, 1);
        x.convolution(0, 33, 1, 11, 0, 100);
        due(x, "c", "clear by 1 x 1 push behind", "clear by 1 x 1 a 256 push behind", "clear by 1 x 1 push behind",
                "clear by 1 x 1 a 256 push behind", "cells by 1 x 1 step 1 push behind", "clear by 1 x 1 a 256 push behind",
                "clear by 1 x 1 push behind", "clear by 1 x 1 a 256 push behind", "clear by 1 x 1 push behind");
    }

    private static void loadCellsStride() {
        Check.sentence("LOAD CELLS (from the first of these places on, the block's first channel, ..; stride: the step times the"
                + " channels)");
        Forge x = made(2, 1, 5, 3);
        x.convolution(0, 11, 1, 20, 0, 100);
        due(x, "cells", "cells by 3 x 2 step 6 push behind", "cells at 2 by 3 x 1 a 256 step 6 push behind");
        Forge y = made(8, 1, 7, 63);
        y.pool(0, 11, 3);
        Check.due("the greatest stride", lines(y, "cells").get(0), "cells by 3 x 8 step 189 push behind");
    }

    private static void poolChannels() {
        Check.sentence("of a pool the tile's (first channel); D channels of the group (of the block; others W)");
        Forge x = made(2, 1, 2, 5);
        x.pool(0, 12, 1);
        due(x, "cells", "cells by 1 x 2 step 5 push behind", "cells at 5 by 1 x 2 a 256 step 5 push behind",
                "cells at 2 by 1 x 2 step 5 pop behind push behind", "cells at 7 by 1 x 2 a 256 step 5 pop behind push behind",
                "cells at 4 by 1 x 1 step 5 pop behind push behind", "cells at 9 by 1 x 1 a 256 step 5 pop behind push behind");
    }

    private static void additionLoads() {
        Check.sentence("(Of an addition the cells of one tensor, then the other; stride the channels.)");
        Forge x = made(4, 3, 11, 5);
        x.convolution(0, 11, 5, 10, 0, 2048);
        x.input(3, 11, 5);
        x.addition(0, 0, 0);
        x.addition(0, 1, 0);
        ArrayList<String> cells = lines(x, "cells");
        // 33 places: a part of 32 and one of 1; channels 4 and 1; the second layer's are the last eight.
        Check.due("loads", String.join("\n", cells.subList(8, 16)),
                "cells by 32 x 4 step 5 push behind\ncells at 165 by 32 x 4 a 256 step 5 push behind\n"
                + "cells at 160 by 1 x 4 step 5 pop behind push behind\ncells at 325 by 1 x 4 a 256 step 5 pop behind push behind\n"
                + "cells at 4 by 32 x 1 step 5 pop behind push behind\ncells at 169 by 32 x 1 a 256 step 5 pop behind push behind\n"
                + "cells at 164 by 1 x 1 step 5 pop behind push behind\ncells at 329 by 1 x 1 a 256 step 5 pop behind push behind");
    }

    private static void loadsPop() {
        Check.sentence("The first load of group j (LOAD SUMS, where there is one) pops behind if j is above 1; the last one pushes"
                + " behind");
        Forge x = made(2, 1, 2, 1);
        x.convolution(0, 11, 5, 10, 0, 100);
        due(x, "sums", "sums at 100 by 2 x 2", "sums at 108 by 2 x 2 a 128", "sums at 116 by 2 x 1 pop behind");
        due(x, "weights", "weights at 120 by 1 x 2 step 5", "weights at 122 by 1 x 2 a 256 step 5",
                "weights at 124 by 1 x 1 step 5");
        due(x, "cells", "cells by 2 x 1 step 1 push behind", "cells by 2 x 1 a 256 step 1 push behind",
                "cells by 2 x 1 step 1 push behind");
        // A pool's only load is the first and the last.
        Forge y = made(2, 4, 1, 1);
        y.pool(0, 11, 1);
        due(y, "cells", "cells by 1 x 1 step 1 push behind", "cells at 1 by 1 x 1 a 256 step 1 push behind",
                "cells at 2 by 1 x 1 step 1 pop behind push behind", "cells at 3 by 1 x 1 a 256 step 1 pop behind push behind");
    }

    private static void multiplies() {
        Check.sentence("MULTIPLY (depth D, W columns, N's lowest bit 1)");
        Forge x = made(8, 1, 1, 9);
        x.convolution(0, 11, 9, 10, 0, 100);
        due(x, "multiply", "multiply by 1 x 8 n 17 pop before push before",
                "multiply by 1 x 8 a 256 step 256 n 3 pop before", "multiply by 1 x 1 b 128 n 17 pop before push before",
                "multiply by 1 x 1 a 256 b 128 step 256 n 3 pop before");
    }

    private static void combines() {
        Check.sentence("or COMBINE (of a pool N 0 in the first group, then 2; of an addition 0, then 1), P rows");
        Forge x = made(2, 2, 3, 1);
        x.pool(0, 12, 1);
        x.addition(0, 0, 0);
        due(x, "combine", "combine by 2 x 1 pop before push before", "combine by 2 x 1 a 256 n 2 pop before",
                "combine by 2 x 1 b 128 pop before push before", "combine by 2 x 1 a 256 b 128 n 2 pop before",
                "combine by 6 x 1 pop before push before", "combine by 6 x 1 a 256 n 1 pop before");
    }

    private static void workPushes() {
        Check.sentence("pops before; pushes before unless it is the tile's last");
        Forge x = made(2, 3, 3, 1);
        x.pool(0, 11, 1);
        due(x, "combine", "combine by 3 x 1 pop before", "combine by 3 x 1 a 256 b 128 pop before", "combine by 3 x 1 pop before");
        Forge y = made(2, 3, 3, 1);
        y.pool(0, 33, 1);
        ArrayList<String> all = lines(y, "combine");
        for (int k = 0; k < 9; k++) {
            Check.holds(all.get(k), all.get(k).endsWith(k < 8 ? " pop before push before" : " pop before"));
        }
    }

    private static void narrows() {
        Check.sentence("Behind the tile's last one NARROW, P rows, W columns, shift and relu (a pool 0): pushes before and behind;"
                + " pops behind if i is above 1");
        Forge x = made(2, 4, 2, 1);
        x.pool(0, 11, 1);
        due(x, "narrow", "narrow by 2 x 1 push before push behind", "narrow by 2 x 1 a 128 b 128 push before push behind",
                "narrow by 2 x 1 pop behind push before push behind",
                "narrow by 2 x 1 a 128 b 128 pop behind push before push behind");
        for (int shift = 0; shift < 32; shift++) {
            Forge y = made(2, 1, 1, 1);
            y.convolution(0, 11, 1, 10, shift, 100);
            y.addition(0, 0, shift);
            String n = shift == 0 ? "" : " n " + shift;
            due(y, "narrow", "narrow by 1 x 1" + n + " push before push behind", "narrow by 1 x 1" + n + " push before push behind");
        }
    }

    private static void stores() {
        Check.sentence("STORE, P rows, W columns, stride the result's channels: pops before, pushes before");
        Forge x = made(2, 1, 2, 1);
        x.convolution(0, 11, 3, 10, 0, 100);
        due(x, "store", "store at 2 by 2 x 2 step 3 pop before push before",
                "store at 4 by 2 x 1 a 128 step 3 pop before push before");
        Forge y = made(2, 32, 32, 1);
        y.addition(0, 0, 0);
        ArrayList<String> stores = lines(y, "store");
        Check.due("the last place of all", stores.get(stores.size() - 1), "store at 2032 by 16 x 1 step 1 pop before push before");
    }

    private static void waitsOfUnit1() {
        Check.sentence("Behind a layer: for unit 1 a WAIT for each of the last two tiles (one if there is one), which pops behind,"
                + " the last one pushes before");
        for (int tiles = 1; tiles <= 4; tiles++) {
            Forge x = made(2, tiles, 1, 1);
            x.pool(0, 11, 1);
            if (tiles == 1) {
                due(x, "wait n 1", "wait n 1 pop behind push before");
            } else {
                due(x, "wait n 1", "wait n 1 pop behind", "wait n 1 pop behind push before");
            }
        }
    }

    private static void waitsOfUnit0() {
        Check.sentence("then for unit 0 three WAITs (two, if the layer has one group), each pops behind");
        Forge one = made(2, 1, 1, 1);
        one.pool(0, 11, 1);
        due(one, "wait pop", "wait pop behind", "wait pop behind");
        Forge two = made(2, 1, 2, 1);
        two.pool(0, 12, 1);
        due(two, "wait pop", "wait pop behind", "wait pop behind", "wait pop behind");
        Forge tiles = made(2, 2, 1, 1);
        tiles.pool(0, 11, 1);
        due(tiles, "wait pop", "wait pop behind", "wait pop behind", "wait pop behind");
        Forge deep = made(2, 1, 1, 3);
        deep.convolution(0, 11, 1, 10, 0, 100);
        due(deep, "wait pop", "wait pop behind", "wait pop behind", "wait pop behind");
        Forge flat = made(2, 1, 1, 2);
        flat.convolution(0, 11, 2, 10, 0, 100);
        due(flat, "wait pop", "wait pop behind", "wait pop behind");
        Forge added = made(2, 1, 1, 1);
        added.addition(0, 0, 0);
        due(added, "wait pop", "wait pop behind", "wait pop behind", "wait pop behind");
        // All that was pushed is popped.
        for (Forge x : new Forge[] {one, two, tiles, deep, flat, added}) {
            Check.due("run", x.run(), 1);
            for (int what = 6; what < 10; what++) {
                Check.due("tokens left", x.stopped(what), 0);
            }
        }
    }

    private static void noRoom() {
        Check.sentence("A network has NO ROOM if its program has more than 600 words");
        Forge fits = made(2, 26, 3, 1);
        fits.pool(0, 23, 1);
        Check.due("355 words", fits.compile(), 355);
        fits.pool(0, 33, 2);
        Check.due("600 words", fits.compile(), 600);
        Check.due("the last", fits.wordOf(599), Word.of("wait pop behind"));
        Check.due("run", fits.run(), 1);
        Forge beyond = made(2, 16, 3, 1);
        beyond.pool(0, 12, 1);
        beyond.pool(0, 23, 1);
        Check.due("316 words", beyond.compile(), 316);
        beyond.pool(0, 33, 1);
        Check.refusesAndKeeps("601 words", beyond, UNSUPPORTED, () -> beyond.compile());
        Check.due("the program stays", beyond.length(), 316);
        Forge far = made(2, 63, 16, 1);
        far.pool(0, 33, 1);
        Check.refusesAndKeeps("61 tiles of 20 words", far, UNSUPPORTED, () -> far.compile());
        far.side(2);
        Check.due("without its layers it has room", far.compile(), 0);
        // 8 blocks of channels: 8 tiles of 6 words and 5 WAITs in each of ten layers.
        Forge ten = made(2, 3, 3, 16);
        for (int k = 0; k < 10; k++) {
            ten.addition(0, 0, 0);
        }
        Check.due("530 words", ten.compile(), 530);
        // 10 blocks: 65 words in each layer.
        ten.input(3, 3, 19);
        for (int k = 0; k < 9; k++) {
            ten.addition(0, 0, 0);
        }
        Check.due("585 words", ten.compile(), 585);
        ten.addition(0, 0, 0);
        Check.refusesAndKeeps("650 words", ten, UNSUPPORTED, () -> ten.compile());
    }

    private static void compiles() {
        Check.sentence("compile: The network becomes the program: how many words");
        Forge x = made(2, 1, 1, 1);
        for (int i = 0; i < 20; i++) {
            x.word(i, 77);
        }
        x.pool(0, 11, 1);
        Check.due("compile", x.compile(), 7);
        Check.due("length", x.length(), 7);
        x.pool(0, 11, 1);
        Check.due("compile", x.compile(), 14);
        String first = Check.words(x);
        Check.due("again", x.compile(), 14);
        Check.due("the same words", Check.words(x), first);
        Check.due("nothing has run", x.stopped(0), 0);
        Check.due("the network stays", Check.network(x), "input 1 x 1 x 1\npool 0 by 1 x 1\npool 0 by 1 x 1\n");
    }

    private static void withoutLayers() {
        Check.sentence("(without layers an empty one)");
        Forge x = made(2, 5, 5, 5);
        x.word(0, 77);
        Check.due("compile", x.compile(), 0);
        Check.due("length", x.length(), 0);
        x.pool(0, 11, 1);
        x.compile();
        x.side(2);
        Check.due("behind side()", x.compile(), 0);
        Check.due("length", x.length(), 0);
    }
}
