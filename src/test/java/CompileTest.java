import java.util.ArrayList;
import java.util.Random;

/**
 * Promises 23, 24 and 27 (compile, reckon, place): programs by hand; and random networks against another
 * compiler, which writes programs as texts and looks at each place by itself, and other definitions of the layers.
 */
public final class CompileTest {
    private static final int NONE = TensorForge.NONE;

    public static void main(String[] args) {
        least();
        convolutionByHand();
        additionByHand();
        poolByHand();
        skippedColumn();
        noRoom();
        reckonByHand();
        Random random = new Random(7);
        int[] met = new int[3];
        for (int turn = 0; turn < 1500; turn++) {
            met[one(random, turn)]++;
        }
        System.out.println("programs " + met[0] + ", no room " + met[1] + ", parameters among tensors " + met[2]);
        Check.holds("each was met", met[0] > 300 && met[1] > 50 && met[2] > 50);
        Check.finish();
    }

    private static void least() {
        Forge x = new Forge();
        x.word(0, 5);
        Check.due("without layers", x.compile(), 0);
        Check.due("without layers", x.length(), 0);
        x.pool(0, 11, 1);
        Check.due("words", x.compile(), 7);
        Check.due("length", x.length(), 7);
        Check.due("program", Check.program(x), "cells by 1 x 1 step 1 push behind\ncombine by 1 x 1 pop before\n"
                + "narrow by 1 x 1 push before push behind\nstore at 1 by 1 x 1 step 1 pop before push before\n"
                + "wait n 1 pop behind push before\nwait pop behind\nwait pop behind\n");
        Check.due("nothing has run", x.stopped(0), 0);
    }

    private static void convolutionByHand() {
        Forge x = new Forge();
        x.input(1, 2, 1);
        x.convolution(0, 13, 3, 11, 18, 100);
        x.compile();
        String due = "sums at 100 by 2 x 2\nweights at 112 by 1 x 2 step 3\nclear by 2 x 1 push behind\n"
                + "multiply by 2 x 2 n 3 pop before push before\n"
                + "weights at 115 by 1 x 2 a 256 step 3\nclear by 2 x 1 a 256 push behind\n"
                + "multiply by 2 x 2 a 256 step 256 n 3 pop before push before\n"
                + "weights at 118 by 1 x 2 step 3 pop behind\nclear by 2 x 1 push behind\n"
                + "multiply by 2 x 2 n 3 pop before\n"
                + "narrow by 2 x 2 n 18 push before push behind\n"
                + "store at 2 by 2 x 2 step 3 pop before push before\n"
                + "sums at 100 by 2 x 2 a 128 pop behind\nweights at 112 by 1 x 2 a 256 step 3\n"
                + "clear by 1 x 1 a 256\ncells by 1 x 1 a 258 step 1 push behind\n"
                + "multiply by 2 x 2 a 256 b 128 step 256 n 3 pop before push before\n"
                + "weights at 115 by 1 x 2 step 3 pop behind\ncells by 2 x 1 step 1 push behind\n"
                + "multiply by 2 x 2 b 128 n 3 pop before push before\n"
                + "weights at 118 by 1 x 2 a 256 step 3 pop behind\ncells at 1 by 1 x 1 a 256 step 1\n"
                + "clear by 1 x 1 a 258 push behind\n"
                + "multiply by 2 x 2 a 256 b 128 step 256 n 3 pop before\n"
                + "narrow by 2 x 2 a 128 b 128 n 18 push before push behind\n"
                + "store at 8 by 2 x 2 a 128 step 3 pop before push before\n"
                + "sums at 100 by 2 x 2 pop behind\n";
        Check.due("program", Check.program(x).substring(0, due.length()), due);
        String last = "multiply by 2 x 1 a 256 b 128 step 256 n 3 pop before\n"
                + "narrow by 2 x 1 a 128 b 128 n 18 pop behind push before push behind\n"
                + "store at 16 by 2 x 1 a 128 step 3 pop before push before\n"
                + "wait n 1 pop behind\nwait n 1 pop behind push before\nwait pop behind\nwait pop behind\n"
                + "wait pop behind\n";
        String whole = Check.program(x);
        Check.due("its end", whole.substring(whole.length() - last.length()), last);
    }

    private static void additionByHand() {
        Forge x = new Forge();
        x.input(5, 13, 3);
        x.pool(0, 11, 1);
        x.input(5, 13, 3);
        x.addition(0, 0, 31);
        x.addition(1, 0, 1);
        x.compile();
        String due = "cells by 63 x 2 step 3 push behind\ncombine by 63 x 2 pop before push before\n"
                + "cells by 63 x 2 a 256 step 3 push behind\ncombine by 63 x 2 a 256 n 1 pop before\n"
                + "narrow by 63 x 2 n 31 push before push behind\n"
                + "store at 195 by 63 x 2 step 3 pop before push before\n"
                + "cells at 189 by 2 x 2 step 3 pop behind push behind\n"
                + "combine by 2 x 2 b 128 pop before push before\n"
                + "cells at 189 by 2 x 2 a 256 step 3 pop behind push behind\n"
                + "combine by 2 x 2 a 256 b 128 n 1 pop before\n"
                + "narrow by 2 x 2 a 128 b 128 n 31 push before push behind\n"
                + "store at 384 by 2 x 2 a 128 step 3 pop before push before\n"
                + "cells at 2 by 63 x 1 step 3 pop behind push behind\ncombine by 63 x 1 pop before push before\n"
                + "cells at 2 by 63 x 1 a 256 step 3 pop behind push behind\n"
                + "combine by 63 x 1 a 256 n 1 pop before\n"
                + "narrow by 63 x 1 n 31 pop behind push before push behind\n"
                + "store at 197 by 63 x 1 step 3 pop before push before\n"
                + "cells at 191 by 2 x 1 step 3 pop behind push behind\n"
                + "combine by 2 x 1 b 128 pop before push before\n"
                + "cells at 191 by 2 x 1 a 256 step 3 pop behind push behind\n"
                + "combine by 2 x 1 a 256 b 128 n 1 pop before\n"
                + "narrow by 2 x 1 a 128 b 128 n 31 pop behind push before push behind\n"
                + "store at 386 by 2 x 1 a 128 step 3 pop before push before\n"
                + "wait n 1 pop behind\nwait n 1 pop behind push before\nwait pop behind\nwait pop behind\n"
                + "wait pop behind\n"
                + "cells at 195 by 63 x 2 step 3 push behind\ncombine by 63 x 2 pop before push before\n"
                + "cells by 63 x 2 a 256 step 3 push behind\n";
        Check.due("program", Check.program(x).substring(0, due.length()), due);
    }

    private static void poolByHand() {
        Forge x = new Forge();
        x.side(3);
        x.input(3, 4, 4);
        x.pool(0, 21, 3);
        x.compile();
        Check.due("program", Check.program(x),
                "cells by 2 x 3 step 12 push behind\ncombine by 2 x 3 pop before push before\n"
                + "cells at 16 by 2 x 3 a 256 step 12 push behind\ncombine by 2 x 3 a 256 n 2 pop before\n"
                + "narrow by 2 x 3 push before push behind\nstore at 48 by 2 x 3 step 4 pop before push before\n"
                + "cells at 3 by 2 x 1 step 12 pop behind push behind\ncombine by 2 x 1 b 128 pop before push before\n"
                + "cells at 19 by 2 x 1 a 256 step 12 pop behind push behind\n"
                + "combine by 2 x 1 a 256 b 128 n 2 pop before\n"
                + "narrow by 2 x 1 a 128 b 128 push before push behind\n"
                + "store at 51 by 2 x 1 a 128 step 4 pop before push before\n"
                + "wait n 1 pop behind\nwait n 1 pop behind push before\nwait pop behind\nwait pop behind\n"
                + "wait pop behind\n");
    }

    /** Of two places the first meets the column ahead of the tensor and the second the one behind it. */
    private static void skippedColumn() {
        Forge x = new Forge();
        x.input(2, 1, 1);
        x.convolution(0, 21, 1, 21, 0, 2048);
        Check.due("width", x.form(1, 1), 2);
        x.compile();
        Check.due("a clear for the one", Check.listing(x, 5), "clear by 1 x 1 a 256\n");
        Check.due("a clear for the other", Check.listing(x, 6), "clear by 1 x 1 a 258 push behind\n");
    }

    private static void noRoom() {
        Forge x = new Forge();
        x.input(63, 16, 1);
        x.pool(0, 33, 1);
        Check.refusesAndKeeps("no room", x, UnsupportedOperationException.class, () -> x.compile());
        x.word(0, 77);
        Check.refusesAndKeeps("no room", x, UnsupportedOperationException.class, () -> x.compile());
        x.input(63, 32, 1);
        Check.due("without layers", x.compile(), 0);
        // For each row of a pool 2 words for each group, NARROW and STORE; and 5 WAITs.
        x.input(59, 2, 1);
        x.pool(0, 22, 1);
        Check.due("58 rows", x.compile(), 5 + 58 * 10);
        x.pool(0, 11, 3);
        Check.refusesAndKeeps("no room", x, UnsupportedOperationException.class, () -> x.compile());
        x.input(60, 2, 1);
        x.pool(0, 22, 1);
        Check.due("59 rows", x.compile(), 595);
        x.input(61, 2, 1);
        x.pool(0, 22, 1);
        Check.refusesAndKeeps("60 rows", x, UnsupportedOperationException.class, () -> x.compile());
        exactly600();
    }

    /** Looks for networks whose programs have 600 words, and 601. */
    private static void exactly600() {
        int fits = 0;
        int tooLong = 0;
        for (int rows = 1; rows <= 63; rows++) {
            for (int kernel : new int[] {11, 12, 13, 22, 23, 33}) {
                for (int more = 0; more < 10; more++) {
                    Forge x = new Forge();
                    x.input(rows, 3, 1);
                    if (kernel / 10 > rows) {
                        continue;
                    }
                    x.pool(0, kernel, 1);
                    for (int k = 0; k < more && Check.tensors(x) < 10; k++) {
                        x.pool(1, 11, 3);
                    }
                    int due = lengthDue(x);
                    if (due == 600) {
                        fits++;
                        Check.due("600 words", x.compile(), 600);
                        Check.due("run", x.run(), 1);
                    } else if (due == 601) {
                        tooLong++;
                        Check.refuses("601 words", UnsupportedOperationException.class, () -> x.compile());
                    }
                }
            }
        }
        System.out.println(fits + " of 600 words, " + tooLong + " of 601");
        Check.holds("both were met", fits > 0 && tooLong > 0);
    }

    private static int lengthDue(Forge x) {
        return new CompileTest(x, 2).written().size();
    }

    private static void reckonByHand() {
        Forge x = new Forge();
        x.input(1, 3, 1);
        x.memory(0, 0x00F00A05);
        x.convolution(0, 13, 1, 11, 1, 2048);
        x.memory(2048, 7);
        x.memory(2052, 0x00FF0203);
        x.addition(0, 0, 16);
        x.pool(1, 22, 1);
        x.reckon();
        // The edge gives three rows: the first and the last meet nothing but the bias.
        int[] due = {4, 4, 4, (7 + 2 * 5 - 10 + 1) >> 1, (7 + 3 * 5 + 20 + 16 + 1) >> 1, (7 + 30 - 32 + 1) >> 1, 4, 4, 4,
            10, 20, 0, 29, 29, 29, 29};
        for (int k = 0; k < due.length; k++) {
            Check.due("cell " + k, x.look(0, 3 + k), due[k]);
        }
        Check.due("behind the last", x.look(0, 3 + due.length), 0);
        // Parameters among the cells of the result: each cell is written at once.
        Forge y = new Forge();
        y.input(1, 4, 1);
        y.memory(0, 0x01010101);
        y.convolution(0, 11, 1, 10, 0, 5);
        y.memory(4, 0x00000300);
        y.memory(8, 0x00000200);
        y.reckon();
        // Bias at 5 to 8, weight at 9: bias 3, weight 2; cell 0 at 4 is 5; cell 1 at 5 is 5 and so the bias;
        // then it is 7 + 7 * 256 by cell 2.
        Check.due("cell 0", y.look(0, 4), 5);
        Check.due("cell 1", y.look(0, 5), 5);
        Check.due("cell 2", y.look(0, 6), 7);
        Check.due("cell 3", y.look(0, 7), 127);
    }

    private final Forge x;
    private final int side;
    private final ArrayList<String> lines = new ArrayList<>();

    private CompileTest(Forge x, int side) {
        this.x = x;
        this.side = side;
    }

    /** A layer's numbers by its line in the listing. */
    private int number(int layer, String name, int otherwise) {
        String[] tokens = Check.networkLine(x, layer).trim().split(" ");
        for (int k = 0; k < tokens.length; k++) {
            if (tokens[k].equals(name)) {
                return name.equals("relu") ? 1 : Integer.parseInt(tokens[k + 1]);
            }
        }
        return otherwise;
    }

    private int second(int layer, String name) {
        String[] tokens = Check.networkLine(x, layer).trim().split(" ");
        for (int k = 0; k < tokens.length; k++) {
            if (tokens[k].equals(name)) {
                return Integer.parseInt(tokens[k + (name.equals("by") ? 3 : 2)]);
            }
        }
        return 0;
    }

    private static String token(String name, int value) {
        return value == 0 ? "" : " " + name + " " + value;
    }

    private void write(String kind, int at, int rows, int columns, int a, int b, int step, int n, String tokens) {
        lines.add(kind + token("at", at) + (rows + columns == 0 ? "" : " by " + rows + " x " + columns) + token("a", a)
                + token("b", b) + token("step", step) + token("n", n) + tokens + "\n");
    }

    private ArrayList<String> written() {
        for (int layer = 1; layer < Check.tensors(x); layer++) {
            writeLayer(layer);
        }
        return lines;
    }

    private void writeLayer(int layer) {
        String kind = Check.networkLine(x, layer).substring(0, 3);
        boolean conv = kind.equals("con");
        boolean add = kind.equals("add");
        int from = number(layer, conv ? "conv" : add ? "add" : "pool", -1);
        int other = add ? second(layer, "add") : from;
        int channels = x.form(layer, 2);
        int rows = add ? 1 : x.form(layer, 0);
        int wide = add ? x.form(layer, 0) * x.form(layer, 1) : x.form(layer, 1);
        int part = Math.min(63, 128 / side);
        int tile = 0;
        int group = 0;
        for (int first = 0; first < channels; first += side) {
            for (int y = 0; y < rows; y++) {
                for (int start = 0; start < wide; start += part) {
                    int places = Math.min(part, wide - start);
                    int columns = Math.min(side, channels - first);
                    int half = tile % 2 * 128;
                    ArrayList<int[]> groups = groups(layer, conv, add, from);
                    for (int g = 0; g < groups.size(); g++) {
                        int[] which = groups.get(g);
                        int depth = conv ? Math.min(side, x.form(from, 2) - which[2]) : columns;
                        int at = lines.size();
                        int space = group % 2 * 256;
                        if (conv && g == 0) {
                            write("sums", number(layer, "at", 0) + 4 * first, places, columns, half, 0, 0, 0, "");
                        }
                        if (conv) {
                            int cell = which[0] * second(layer, "by") + which[1];
                            int weights = number(layer, "at", 0) + 4 * channels
                                    + (cell * x.form(from, 2) + which[2]) * channels + first;
                            write("weights", weights, depth, columns, space, 0, channels, 0, "");
                        }
                        if (add) {
                            write("cells", x.form(g == 0 ? from : other, 3) + start * channels + first, places, depth,
                                    space, 0, channels, 0, "");
                        } else {
                            writeCells(layer, from, y, start, places, which, conv ? which[2] : first, depth, space);
                        }
                        if (group > 1) {
                            mark(at, " pop behind");
                        }
                        mark(lines.size() - 1, " push behind");
                        String pushes = " pop before" + (g < groups.size() - 1 ? " push before" : "");
                        if (conv) {
                            write("multiply", 0, places, columns, space, half, space, 2 * depth + 1, pushes);
                        } else {
                            write("combine", 0, places, columns, space, half, 0, g == 0 ? 0 : add ? 1 : 2, pushes);
                        }
                        group++;
                    }
                    write("narrow", 0, places, columns, half, half, 0, number(layer, "shift", 0)
                            + 16 * number(layer, "relu", 0), (tile > 1 ? " pop behind" : "") + " push before push behind");
                    write("store", x.form(layer, 3) + (y * wide + start) * channels + first, places, columns, half, 0,
                            channels, 0, " pop before push before");
                    tile++;
                }
            }
        }
        if (tile > 1) {
            write("wait", 0, 0, 0, 0, 0, 0, 1, " pop behind");
        }
        write("wait", 0, 0, 0, 0, 0, 0, 1, " pop behind push before");
        for (int k = 0; k < (group == 1 ? 2 : 3); k++) {
            write("wait", 0, 0, 0, 0, 0, 0, 0, " pop behind");
        }
    }

    private ArrayList<int[]> groups(int layer, boolean conv, boolean add, int from) {
        ArrayList<int[]> groups = new ArrayList<>();
        if (add) {
            groups.add(new int[3]);
            groups.add(new int[3]);
            return groups;
        }
        for (int ky = 0; ky < number(layer, "by", 0); ky++) {
            for (int kx = 0; kx < second(layer, "by"); kx++) {
                for (int block = 0; block < (conv ? x.form(from, 2) : 1); block += side) {
                    groups.add(new int[] {ky, kx, block});
                }
            }
        }
        return groups;
    }

    private void mark(int line, String tokens) {
        String whole = lines.get(line);
        String bare = whole.substring(0, whole.length() - 1);
        lines.set(line, bare + tokens + "\n");
    }

    private void writeCells(int layer, int from, int y, int start, int places, int[] which, int channel, int depth,
            int space) {
        int step = number(layer, "step", 1);
        int edge = number(layer, "edge", 0);
        int row = step * y + which[0] - edge;
        int all = x.form(from, 2);
        if (row < 0 || row >= x.form(from, 0)) {
            write("clear", 0, places, depth, space, 0, 0, 0, "");
            return;
        }
        int ahead = 0;
        int there = 0;
        int behind = 0;
        int address = -1;
        for (int k = 0; k < places; k++) {
            int column = step * (start + k) + which[1] - edge;
            if (column < 0) {
                ahead++;
            } else if (column >= x.form(from, 1)) {
                behind++;
            } else {
                there++;
                address = address < 0 ? x.form(from, 3) + (row * x.form(from, 1) + column) * all + channel : address;
            }
        }
        if (ahead > 0) {
            write("clear", 0, ahead, depth, space, 0, 0, 0, "");
        }
        if (there > 0) {
            write("cells", address, there, depth, space + ahead * side, 0, step * all, 0, "");
        }
        if (behind > 0) {
            write("clear", 0, behind, depth, space + (ahead + there) * side, 0, 0, 0, "");
        }
    }

    /** The layers by their definitions, on a copy of the memory. */
    private void define(int[] memory) {
        for (int layer = 1; layer < Check.tensors(x); layer++) {
            String kind = Check.networkLine(x, layer).substring(0, 3);
            int n = number(layer, "shift", 0) + 16 * number(layer, "relu", 0);
            int from = number(layer, kind.equals("con") ? "conv" : kind.equals("add") ? "add" : "pool", -1);
            int[] to = {x.form(layer, 0), x.form(layer, 1), x.form(layer, 2), x.form(layer, 3)};
            int[] of = {x.form(from, 0), x.form(from, 1), x.form(from, 2), x.form(from, 3)};
            int other = kind.equals("add") ? x.form(second(layer, "add"), 3) : 0;
            int high = number(layer, "by", 1);
            int wide = kind.equals("add") ? 1 : second(layer, "by");
            int step = number(layer, "step", 1);
            int edge = number(layer, "edge", 0);
            int at = number(layer, "at", 0);
            for (int cell = 0; cell < to[0] * to[1] * to[2]; cell++) {
                int y = cell / to[2] / to[1];
                int across = cell / to[2] % to[1];
                int c = cell % to[2];
                int sum = 0;
                if (kind.equals("add")) {
                    sum = memory[of[3] + cell] + memory[other + cell];
                } else if (kind.equals("poo")) {
                    sum = -128;
                } else {
                    for (int k = 0; k < 4; k++) {
                        sum += (memory[at + 4 * c + k] & 255) << 8 * k;
                    }
                }
                for (int k = 0; k < high * wide * of[2] && !kind.equals("add"); k++) {
                    int channel = k % of[2];
                    int row = step * y + k / of[2] / wide - edge;
                    int column = step * across + k / of[2] % wide - edge;
                    if (row < 0 || column < 0 || row >= of[0] || column >= of[1]) {
                        continue;
                    }
                    int value = memory[of[3] + (row * of[1] + column) * of[2] + channel];
                    if (kind.equals("con")) {
                        sum += value * memory[at + 4 * to[2] + k * to[2] + c];
                    } else if (channel == c) {
                        sum = Math.max(sum, value);
                    }
                }
                memory[to[3] + cell] = narrow(sum, n);
            }
        }
    }

    private static int narrow(int sum, int n) {
        long value = n % 16 == 0 ? sum : Math.floorDiv(sum + (1L << n % 16) / 2, 1L << n % 16);
        value = value < -128 ? -128 : value > 127 ? 127 : value;
        return n >= 16 && value < 0 ? 0 : (int) value;
    }

    private static void anyLayer(Forge x, Random random, boolean among) {
        int tensor = random.nextInt(3) == 0 ? random.nextInt(Check.tensors(x)) : Check.tensors(x) - 1;
        int kernel = 10 * (1 + random.nextInt(3)) + 1 + random.nextInt(3);
        int shift = random.nextInt(3) == 0 ? random.nextInt(32) : random.nextInt(4) + 16 * random.nextInt(2);
        try {
            int kind = random.nextInt(4);
            if (kind < 2) {
                x.convolution(tensor, kernel, 1 + random.nextInt(random.nextInt(4) == 0 ? 16 : 5),
                        10 * (1 + random.nextInt(2)) + random.nextInt(2), shift + 4 & 31,
                        among ? random.nextInt(2048) : 2048 + random.nextInt(1024));
            } else if (kind == 2) {
                x.pool(tensor, kernel, 1 + random.nextInt(3));
            } else {
                x.addition(tensor, random.nextBoolean() ? tensor : random.nextInt(Check.tensors(x)), shift);
            }
        } catch (IllegalArgumentException | UnsupportedOperationException e) {
            // Such a layer can't be.
        }
    }

    /** Fills as much of the memory as there are calls for: the input and the parameters first. */
    private static int[] fill(Forge x, Random random) {
        int[] memory = new int[4096];
        boolean[] filled = new boolean[1024];
        int left = 300;
        int inputs = (x.form(0, 0) * x.form(0, 1) * x.form(0, 2) + 3) / 4;
        for (int k = 0; k < Math.min(inputs, 150); k++, left--) {
            fillAt(x, random, memory, filled, inputs <= 150 ? k : random.nextInt(inputs));
        }
        for (int k = 0; left > 0; k++, left--) {
            int layer = random.nextInt(Check.tensors(x));
            int at = layer == 0 ? random.nextInt(4096) : parameter(x, layer, random);
            fillAt(x, random, memory, filled, at / 4);
        }
        return memory;
    }

    private static int parameter(Forge x, int layer, Random random) {
        String[] tokens = Check.networkLine(x, layer).trim().split(" ");
        if (!tokens[0].equals("conv")) {
            return random.nextInt(4096);
        }
        int size = Integer.parseInt(tokens[3]) * Integer.parseInt(tokens[5]) * x.form(Integer.parseInt(tokens[1]), 2) + 4;
        return Integer.parseInt(tokens[9]) + random.nextInt(size * x.form(layer, 2));
    }

    private static void fillAt(Forge x, Random random, int[] memory, boolean[] filled, int k) {
        if (filled[k]) {
            return;
        }
        filled[k] = true;
        int v = random.nextBoolean() ? random.nextInt() : random.nextInt(7) - 3;
        x.memory(4 * k, v);
        for (int j = 0; j < 4; j++) {
            memory[4 * k + j] = (byte) (v >> 8 * j);
        }
    }

    /** Compares the memory where tensors are, and some more of it. */
    private static void same(String what, Forge x, int[] due, Random random) {
        boolean[] asked = new boolean[4096];
        for (int k = 1; k < Check.tensors(x); k++) {
            int size = x.form(k, 0) * x.form(k, 1) * x.form(k, 2);
            for (int j = 0; j <= size; j += size > 400 ? 1 + random.nextInt(5) : 1) {
                asked[x.form(k, 3) + j] = true;
            }
        }
        for (int k = 0; k < 60; k++) {
            asked[random.nextInt(4096)] = true;
        }
        for (int k = 0; k < 4096; k++) {
            if (asked[k]) {
                Check.due(what + ", byte " + k, x.look(0, k), due[k]);
            }
        }
    }

    private static int one(Random random, int turn) {
        int side = 2 + random.nextInt(7);
        boolean among = turn % 8 == 0;
        Forge x = new Forge();
        x.side(side);
        int wide = random.nextInt(5) == 0 ? 63 : 9;
        try {
            x.input(1 + random.nextInt(7), 1 + random.nextInt(wide), 1 + random.nextInt(random.nextBoolean() ? 3 : 12));
        } catch (IllegalArgumentException e) {
            x.input(3, 4, 2);
        }
        for (int k = random.nextInt(random.nextInt(4) == 0 ? 12 : 4); k >= 0; k--) {
            anyLayer(x, random, among);
        }
        // Places anew, of which a model is here too.
        if (turn % 3 == 0) {
            placeDue(x);
            if (turn % 2 == 0) {
                anyLayer(x, random, among);
            }
        }
        int[] due = fill(x, random);
        Forge y = x.twin();
        CompileTest model = new CompileTest(x, side);
        model.define(due);
        x.reckon();
        same("reckon", x, due, random);
        ArrayList<String> lines = model.written();
        if (lines.size() > 600) {
            Check.refuses("compile without room", UnsupportedOperationException.class, () -> y.compile());
            return 1;
        }
        Check.due("compile", y.compile(), lines.size());
        if (among) {
            // A STORE may race with the load of parameters.
            Check.holds("done, or a race", y.run() % 2 == 1);
            return 2;
        }
        Check.due("program of " + Check.network(y), Check.program(y), String.join("", lines));
        Check.due("run", y.run(), 1);
        for (int what = 6; what < 10; what++) {
            Check.due("tokens left", y.stopped(what), 0);
        }
        same("what the program leaves", y, due, random);
        return 0;
    }

    /** Looks place by place for the least one. */
    private static void placeDue(Forge x) {
        int tensors = Check.tensors(x);
        int[] size = new int[tensors];
        int[] spot = new int[tensors];
        boolean[][] takes = new boolean[tensors][tensors];
        for (int k = 0; k < tensors; k++) {
            size[k] = x.form(k, 0) * x.form(k, 1) * x.form(k, 2);
            String[] tokens = Check.networkLine(x, k).trim().split(" ");
            if (k > 0) {
                takes[k][Integer.parseInt(tokens[1])] = true;
            }
            if (tokens[0].equals("add")) {
                takes[k][Integer.parseInt(tokens[2])] = true;
            }
        }
        int most = size[0];
        for (int k = 1; k < tensors; k++) {
            boolean[] used = new boolean[8192];
            for (int j = 0; j < k; j++) {
                boolean taken = false;
                boolean later = false;
                for (int m = 0; m < tensors; m++) {
                    taken |= takes[m][j];
                    later |= takes[m][j] && m >= k;
                }
                for (int at = 0; at < size[j] && (later || !taken); at++) {
                    used[spot[j] + at] = true;
                }
            }
            boolean free = false;
            for (int at = 0; !free; at++) {
                free = true;
                for (int j = 0; j < size[k]; j++) {
                    free &= !used[at + j];
                }
                spot[k] = at;
            }
            most = Math.max(most, spot[k] + size[k]);
        }
        if (most > 2048) {
            Check.refuses("place without room", UnsupportedOperationException.class, () -> x.place());
            return;
        }
        Check.due("place", x.place(), most);
        for (int k = 0; k < tensors; k++) {
            Check.due("begin of " + k, x.form(k, 3), spot[k]);
        }
    }
}
