/** Promises 18 to 22 and 25 to 27: input, convolution, pool, addition, form, network, networkSign, place. */
public final class NetworkTest {
    private static final Class<IllegalArgumentException> ARGUMENT = IllegalArgumentException.class;
    private static final Class<IndexOutOfBoundsException> INDEX = IndexOutOfBoundsException.class;
    private static final Class<UnsupportedOperationException> UNSUPPORTED = UnsupportedOperationException.class;
    private static final int NONE = TensorForge.NONE;

    public static void main(String[] args) {
        input();
        convolution();
        wrongConvolutions();
        pool();
        addition();
        tenLayers();
        texts();
        textFaults();
        names();
        listings();
        places();
        justBeyond();
        Check.finish();
    }

    private static void formed(Forge x, int tensor, int height, int width, int channels, int begin) {
        Check.due("height of " + tensor, x.form(tensor, 0), height);
        Check.due("width of " + tensor, x.form(tensor, 1), width);
        Check.due("channels of " + tensor, x.form(tensor, 2), channels);
        Check.due("begin of " + tensor, x.form(tensor, 3), begin);
    }

    private static void input() {
        Forge x = new Forge();
        x.input(63, 32, 1);
        formed(x, 0, 63, 32, 1, 0);
        x.input(4, 8, 63);
        formed(x, 0, 4, 8, 63, 0);
        x.input(3, 4, 63);
        x.pool(0, 11, 3);
        Check.due("tensors", Check.tensors(x), 2);
        int[][] wrong = {{0, 1, 1}, {1, 0, 1}, {1, 1, 0}, {64, 1, 1}, {1, 64, 1}, {1, 1, 64}, {-1, 1, 1}, {1, -1, 1},
            {1, 1, -1}, {63, 33, 1}, {2, 17, 63}, {63, 63, 63}, {-2, -2, 2},
            {Integer.MAX_VALUE, Integer.MAX_VALUE, 1}, {Integer.MIN_VALUE, 1, 1}, {65536, 65536, 1}};
        for (int[] form : wrong) {
            Check.refusesAndKeeps("input " + form[0] + " x " + form[1] + " x " + form[2], x, ARGUMENT,
                    () -> x.input(form[0], form[1], form[2]));
        }
        x.input(32, 32, 2);
        formed(x, 0, 32, 32, 2, 0);
        Check.due("layers are gone", Check.tensors(x), 1);
        for (int what : new int[] {-1, 4, Integer.MAX_VALUE, Integer.MIN_VALUE}) {
            Check.refuses("form(0, " + what + ")", ARGUMENT, () -> x.form(0, what));
            Check.refuses("form(1, " + what + ")", INDEX, () -> x.form(1, what));
        }
        Check.refuses("form(-1, 0)", INDEX, () -> x.form(-1, 0));
        Check.refuses("form(least, 0)", INDEX, () -> x.form(Integer.MIN_VALUE, 0));
    }

    private static void convolution() {
        Forge x = new Forge();
        x.input(5, 8, 3);
        Check.due("first", x.convolution(0, 23, 4, 10, 0, 3000), 1);
        formed(x, 1, 4, 6, 4, 120);
        Check.due("second", x.convolution(0, 32, 1, 21, 31, 4096 - 4 - 18), 2);
        formed(x, 2, (5 + 2 - 3) / 2 + 1, (8 + 2 - 2) / 2 + 1, 1, 120 + 96);
        Check.due("third", x.convolution(1, 11, 16, 20, 15, 0), 3);
        formed(x, 3, 2, 3, 16, 216 + 15);
        Check.due("fourth", x.convolution(3, 11, 2, 11, 16, 0), 4);
        formed(x, 4, 4, 5, 2, 231 + 96);
        Check.due("listing", Check.network(x), "input 5 x 8 x 3\n"
                + "conv 0 by 2 x 3 outputs 4 at 3000\n"
                + "conv 0 by 3 x 2 outputs 1 at 4074 step 2 edge 1 shift 15 relu\n"
                + "conv 1 by 1 x 1 outputs 16 at 0 step 2 shift 15\n"
                + "conv 3 by 1 x 1 outputs 2 at 0 edge 1 relu\n");
    }

    private static void wrongConvolutions() {
        Forge x = new Forge();
        x.input(2, 3, 2);
        int[] extremes = {Integer.MIN_VALUE, Integer.MAX_VALUE, -1, -11, 100, 1000};
        for (int tensor : new int[] {-1, 1, 11, 12, Integer.MIN_VALUE, Integer.MAX_VALUE}) {
            Check.refusesAndKeeps("tensor " + tensor, x, INDEX, () -> x.convolution(tensor, 0, 0, 0, -1, -1));
        }
        for (int kernel = -40; kernel < 60; kernel++) {
            int k = kernel;
            boolean fine = kernel / 10 >= 1 && kernel / 10 <= 2 && kernel % 10 >= 1 && kernel % 10 <= 3;
            convolutionDue(x, fine, 0, k, 1, 10, 0, 100);
        }
        for (int kernel : extremes) {
            convolutionDue(x, false, 0, kernel, 1, 10, 0, 100);
        }
        convolutionDue(x, true, 0, 33, 1, 11, 0, 100);
        convolutionDue(x, false, 0, 33, 1, 10, 0, 100);
        for (int outputs = -3; outputs < 20; outputs++) {
            convolutionDue(x, outputs >= 1 && outputs <= 16, 0, 11, outputs, 10, 0, 100);
        }
        for (int outputs : extremes) {
            convolutionDue(x, false, 0, 11, outputs, 10, 0, 100);
        }
        for (int how = -30; how < 40; how++) {
            convolutionDue(x, how == 10 || how == 11 || how == 20 || how == 21, 0, 11, 1, how, 0, 100);
        }
        for (int how : extremes) {
            convolutionDue(x, false, 0, 11, 1, how, 0, 100);
        }
        for (int shift = -20; shift < 50; shift++) {
            convolutionDue(x, shift >= 0 && shift <= 31, 0, 11, 1, 10, shift, 100);
        }
        for (int shift : extremes) {
            convolutionDue(x, false, 0, 11, 1, 10, shift, 100);
        }
        // 3 outputs, 2 x 2 cells of the kernel, 2 channels: 12 + 24 bytes.
        int last = 4096 - 36;
        for (int address : new int[] {0, 1, last}) {
            convolutionDue(x, true, 0, 22, 3, 10, 0, address);
        }
        for (int address : new int[] {-1, last + 1, 4096, Integer.MAX_VALUE, Integer.MIN_VALUE}) {
            convolutionDue(x, false, 0, 22, 3, 10, 0, address);
        }
        // A result that is wider than a tensor can be.
        x.input(1, 63, 1);
        convolutionDue(x, false, 0, 11, 1, 11, 0, 0);
        convolutionDue(x, false, 0, 12, 1, 11, 0, 0);
        convolutionDue(x, true, 0, 13, 1, 11, 0, 0);
        convolutionDue(x, true, 0, 11, 1, 21, 0, 0);
        x.input(63, 1, 1);
        convolutionDue(x, false, 0, 11, 1, 11, 0, 0);
        convolutionDue(x, false, 0, 21, 1, 11, 0, 0);
        convolutionDue(x, true, 0, 31, 1, 11, 0, 0);
        // Parameters that are more than the memory.
        x.input(3, 3, 63);
        convolutionDue(x, false, 0, 33, 16, 10, 0, 0);
        convolutionDue(x, true, 0, 33, 7, 10, 0, 4096 - 7 * (4 + 9 * 63));
        // Beyond 2048, and what comes ahead of it.
        x.input(16, 16, 7);
        Check.due("just fits", x.convolution(0, 11, 1, 10, 0, 0), 1);
        Check.refusesAndKeeps("beyond 2048", x, UNSUPPORTED, () -> x.pool(1, 11, 1));
        Check.refusesAndKeeps("beyond 2048", x, UNSUPPORTED, () -> x.convolution(1, 31, 1, 20, 0, 0));
        Check.refusesAndKeeps("beyond 2048", x, UNSUPPORTED, () -> x.addition(0, 0, 0));
        Check.refusesAndKeeps("a wrong number ahead", x, ARGUMENT, () -> x.convolution(1, 34, 1, 20, 0, 0));
        Check.refusesAndKeeps("unlike forms ahead", x, ARGUMENT, () -> x.addition(0, 1, 0));
        Check.refusesAndKeeps("no tensor ahead", x, INDEX, () -> x.convolution(2, 34, 1, 20, 0, 0));
    }

    /** Whether a convolution of the input can be; leaves the network without it. */
    private static void convolutionDue(Forge x, boolean fine, int tensor, int kernel, int outputs, int how,
            int shift, int address) {
        String call = "convolution(" + tensor + ", " + kernel + ", " + outputs + ", " + how + ", " + shift + ", "
                + address + ")";
        if (fine) {
            Check.due(call, x.convolution(tensor, kernel, outputs, how, shift, address), 1);
            x.input(x.form(0, 0), x.form(0, 1), x.form(0, 2));
        } else {
            Check.refuses(call, ARGUMENT, () -> x.convolution(tensor, kernel, outputs, how, shift, address));
            Check.due("tensors behind " + call, Check.tensors(x), 1);
        }
    }

    private static void pool() {
        Forge x = new Forge();
        x.input(7, 9, 5);
        Check.due("first", x.pool(0, 32, 2), 1);
        formed(x, 1, 3, 4, 5, 315);
        Check.due("second", x.pool(0, 13, 3), 2);
        formed(x, 2, 3, 3, 5, 315 + 60);
        Check.due("third", x.pool(1, 33, 1), 3);
        formed(x, 3, 1, 2, 5, 375 + 45);
        Check.due("listing", Check.network(x), "input 7 x 9 x 5\npool 0 by 3 x 2 step 2\npool 0 by 1 x 3 step 3\n"
                + "pool 1 by 3 x 3\n");
        for (int step : new int[] {0, 4, -1, Integer.MAX_VALUE, Integer.MIN_VALUE}) {
            Check.refusesAndKeeps("pool step " + step, x, ARGUMENT, () -> x.pool(0, 11, step));
        }
        for (int kernel : new int[] {0, 1, 10, 3, 30, 14, 41, 44, -11, -33, 111, Integer.MAX_VALUE,
            Integer.MIN_VALUE}) {
            Check.refusesAndKeeps("pool kernel " + kernel, x, ARGUMENT, () -> x.pool(0, kernel, 1));
        }
        Check.refusesAndKeeps("a kernel that is too high", x, ARGUMENT, () -> x.pool(3, 21, 1));
        Check.refusesAndKeeps("a kernel that is too wide", x, ARGUMENT, () -> x.pool(3, 13, 1));
        Check.refusesAndKeeps("no tensor", x, INDEX, () -> x.pool(4, 99, 1));
        Check.refusesAndKeeps("no tensor", x, INDEX, () -> x.pool(-1, 99, 1));
    }

    private static void addition() {
        Forge x = new Forge();
        x.input(2, 3, 4);
        Check.due("of one and itself", x.addition(0, 0, 0), 1);
        formed(x, 1, 2, 3, 4, 24);
        Check.due("of two", x.addition(1, 0, 31), 2);
        formed(x, 2, 2, 3, 4, 48);
        Check.due("of two", x.addition(0, 2, 15), 3);
        Check.due("of two", x.addition(2, 3, 16), 4);
        x.pool(0, 21, 1);
        x.pool(0, 12, 1);
        x.convolution(0, 11, 3, 10, 0, 1000);
        Check.due("listing", Check.network(x), "input 2 x 3 x 4\nadd 0 0\nadd 1 0 shift 15 relu\nadd 0 2 shift 15\n"
                + "add 2 3 relu\npool 0 by 2 x 1\npool 0 by 1 x 2\nconv 0 by 1 x 1 outputs 3 at 1000\n");
        for (int other = 5; other < 8; other++) {
            int unlike = other;
            Check.refusesAndKeeps("unlike " + other, x, ARGUMENT, () -> x.addition(0, unlike, 0));
            Check.refusesAndKeeps("unlike " + other, x, ARGUMENT, () -> x.addition(unlike, 0, 0));
        }
        for (int shift : new int[] {-1, 32, -16, Integer.MAX_VALUE, Integer.MIN_VALUE}) {
            Check.refusesAndKeeps("shift " + shift, x, ARGUMENT, () -> x.addition(0, 1, shift));
        }
        for (int none : new int[] {-1, 8, 11, Integer.MAX_VALUE, Integer.MIN_VALUE}) {
            Check.refusesAndKeeps("no tensor", x, INDEX, () -> x.addition(none, 0, 99));
            Check.refusesAndKeeps("no tensor", x, INDEX, () -> x.addition(0, none, 99));
        }
    }

    private static void tenLayers() {
        Forge x = new Forge();
        for (int k = 1; k <= 10; k++) {
            Check.due("layer " + k, x.pool(k - 1, 11, 1), k);
            formed(x, k, 1, 1, 1, k);
        }
        Check.refusesAndKeeps("one more", x, UNSUPPORTED, () -> x.pool(10, 11, 1));
        Check.refusesAndKeeps("one more", x, UNSUPPORTED, () -> x.convolution(0, 11, 1, 10, 0, 0));
        Check.refusesAndKeeps("one more", x, UNSUPPORTED, () -> x.addition(3, 4, 0));
        Check.refusesAndKeeps("a wrong one more", x, ARGUMENT, () -> x.pool(10, 12, 1));
        Check.refusesAndKeeps("one more of none", x, INDEX, () -> x.pool(11, 11, 1));
        Check.due("compile", x.compile(), 10 * (4 + 1 + 2));
        x.input(1, 1, 1);
        Check.due("a first one", x.pool(0, 11, 1), 1);
    }

    private static void texts() {
        Forge x = new Forge();
        Check.due("network", Check.network(x, "# a net\n\n  input 6 x 5 x 2 as picture # in\n"
                + "conv picture by 3 x 3 outputs 4 at 2500 step 2 edge 1 shift 3 relu as first\n"
                + "pool first step 3by 2x2 as second\n\nadd first 1 relu shift 4\n"
                + "conv 3 at0outputs1by1x1\nadd 3first\nconv 0002 by 1 x 1 edge 0 step 1 shift 0 outputs 16 at 0003"),
                NONE);
        String due = "input 6 x 5 x 2\n"
                + "conv 0 by 3 x 3 outputs 4 at 2500 step 2 edge 1 shift 3 relu\n"
                + "pool 1 by 2 x 2 step 3\nadd 1 1 shift 4 relu\nconv 3 by 1 x 1 outputs 1 at 0\nadd 3 1\n"
                + "conv 2 by 1 x 1 outputs 16 at 3\n";
        Check.due("listing", Check.network(x), due);
        formed(x, 1, 3, 3, 4, 60);
        formed(x, 2, 1, 1, 4, 96);
        formed(x, 3, 3, 3, 4, 100);
        formed(x, 6, 1, 1, 16, 100 + 36 + 9 + 36);
        Check.due("its listing is a text of it", Check.network(x, due), NONE);
        Check.due("listing", Check.network(x), due);
        Check.due("signs stay", x.put(0), due.length());
        Check.due("input alone", Check.network(x, "input4x4x4"), NONE);
        Check.due("input alone", Check.network(x), "input 4 x 4 x 4\n");
        Check.due("blanks behind", Check.network(x, "input 4 x 4 x 5\n\n\n # \n"), NONE);
        StringBuilder ten = new StringBuilder("input 1 x 1 x 1\n");
        for (int k = 0; k < 10; k++) {
            ten.append("pool ").append(k).append(" by 1 x 1 as ").append((char) ('a' + k)).append("z\n");
        }
        Check.due("ten layers", Check.network(x, ten.toString()), NONE);
        Check.due("ten layers", Check.tensors(x), 11);
        fault(ten + "\npool jz by 1 x 1", 12);
        fault(ten + "?", 11);
    }

    private static void fault(String text, int line) {
        Forge x = new Forge();
        x.input(3, 4, 5);
        x.pool(0, 22, 1);
        x.place();
        Check.write(x, text);
        String before = Check.all(x);
        Check.due("network of " + text, x.network(), line);
        Check.due("all behind a fault", Check.all(x), before);
    }

    private static void textFaults() {
        fault("", 1);
        fault("\n", 2);
        fault("   ", 1);
        fault("  \n # input 1 x 1 x 1\n", 3);
        fault("#", 1);
        fault("?", 0);
        fault("\n!\ninput 1 x 1 x 1", 1);
        fault("pool 0 by 1 x 1", 0);
        fault("\n\npool 0 by 1 x 1\ninput 1 x 1 x 1", 2);
        for (String input : new String[] {"input", "input 1", "input 1 x", "input 1 x 1", "input 1 x 1 x",
            "input 1 1 1", "input 1 x 1 x 1 x 1", "input 1 x 1 x 1 1", "input 0 x 1 x 1", "input 64 x 1 x 1",
            "input 1 x 64 x 1", "input 1 x 1 x 64", "input 63 x 33 x 1", "input 00001 x 1 x 1", "Input 1 x 1 x 1",
            "input 1 X 1 x 1", "input 1 x 1 x 1 as", "input 1 x 1 x 1 as 5", "input 1 x 1 x 1 relu",
            "input 1 x 1 x 1 by 1 x 1", "input 1 x 1 x 1 step 1", "input 1 x 1 x 1 as a as b", "as a input 1 x 1 x 1",
            "input a x 1 x 1", "input 1 x 1 x 1 input", "input 1 x 1 x 1 shift 0"}) {
            fault("\n" + input, 1);
        }
        String head = "input 5 x 5 x 2 as in\nadd in 0\n";
        for (String layer : new String[] {"input 1 x 1 x 1", "conv", "conv in", "conv 0", "conv 0 by 1 x 1",
            "conv 0 by 1 x 1 outputs 1", "conv 0 by 1 x 1 at 1", "conv 0 outputs 1 at 1",
            "conv 2 by 1 x 1 outputs 1 at 1", "conv out by 1 x 1 outputs 1 at 1", "conv x by 1 x 1 outputs 1 at 1",
            "conv 0 0 by 1 x 1 outputs 1 at 1", "conv by 1 x 1 outputs 1 at 1", "by 1 x 1 conv 0 outputs 1 at 1",
            "conv 0 by 1 x 1 outputs 0 at 1", "conv 0 by 1 x 1 outputs 17 at 1", "conv 0 by 0 x 1 outputs 1 at 1",
            "conv 0 by 1 x 0 outputs 1 at 1", "conv 0 by 4 x 1 outputs 1 at 1", "conv 0 by 1 x 4 outputs 1 at 1",
            "conv 0 by 1 x 13 outputs 1 at 1", "conv 0 by 0 x 22 outputs 1 at 1", "conv 0 by 1 x 1 outputs 1 at 4091",
            "conv 0 by 1 x 1 outputs 1 at 9999", "conv 0 by 1 x 1 outputs 1 at 1 step 0",
            "conv 0 by 1 x 1 outputs 1 at 1 step 3", "conv 0 by 1 x 1 outputs 1 at 1 edge 2",
            "conv 0 by 1 x 1 outputs 1 at 1 edge 10", "conv 0 by 1 x 1 outputs 1 at 1 step 0 edge 10",
            "conv 0 by 1 x 1 outputs 1 at 1 edge 11", "conv 0 by 1 x 1 outputs 1 at 1 shift 16",
            "conv 0 by 1 x 1 outputs 1 at 1 shift 17 relu", "conv 0 by 1 x 1 outputs 1 at 1 relu 1",
            "conv 0 by 1 x 1 outputs 1 at 1 relu relu", "conv 0 by 1 x 1 by 1 x 1 outputs 1 at 1",
            "conv 0 by 1 x 1 outputs 1 outputs 1 at 1", "conv 0 by 1 x 1 outputs 1 at 1 at 1",
            "conv 0 by 1 x 1 outputs 1 at 1 step 1 step 1", "conv 0 by 1 x 1 outputs 1 at 1 edge 0 edge 0",
            "conv 0 by 1 x 1 outputs 1 at 1 shift 0 shift 0", "conv 0 by 1 outputs 1 at 1",
            "conv 0 by 1 1 outputs 1 at 1", "conv 0 by 1 x outputs 1 at 1", "conv 0 by 1 x 1 outputs at 1",
            "conv 0 by 1 x 1 outputs 1 at 1 n 1", "conv 0 by 1 x 1 outputs 1 at 1;", "conv 00000 by 1 x 1 outputs 1 at 1",
            "pool", "pool 0", "pool in step 1", "pool 0 by 1 x 1 step 0", "pool 0 by 1 x 1 step 4",
            "pool 0 by 1 x 1 edge 0", "pool 0 by 1 x 1 shift 0", "pool 0 by 1 x 1 relu", "pool 0 by 1 x 1 outputs 2",
            "pool 0 by 1 x 1 at 0", "pool 0 by 4 x 1", "pool 0 by 1 x 11", "pool 2 by 1 x 1", "pool 0 by 1 x 1 x 1",
            "add", "add 0", "add in", "add 0 2", "add 2 0", "add 0 0 0", "add in out", "add 0 0 by 1 x 1",
            "add 0 0 step 1", "add 0 0 edge 0", "add 0 0 outputs 2", "add 0 0 at 0", "add 0 0 shift 16",
            "add 0 0 shift 31", "add 0 relu 0", "add 0 0 relu relu", "add 0 0 shift", "add inin",
            "relu", "store 0", "0", "as b"}) {
            fault(head + layer, 2);
            fault(head + "# fine\n" + layer + "\n?", 3);
        }
        fault("input 5 x 5 x 2\npool 0 by 1 x 1 step 2\nadd 0 1", 2);
        fault("input 5 x 5 x 2\nconv 0 by 3 x 3 outputs 1 at 0 edge 1\npool 1 by 3 x 3 step 3\npool 2 by 3 x 3", 3);
        fault("input 32 x 32 x 1\nadd 0 0\npool 0 by 1 x 1 step 3", 2);
        fault("input 63 x 1 x 1\nconv 0 by 1 x 1 outputs 1 at 0 edge 1", 1);
    }

    private static void names() {
        for (String kept : new String[] {"input", "conv", "pool", "add", "by", "outputs", "at", "step", "edge", "shift",
            "relu", "as", "x"}) {
            fault("input 2 x 2 x 2 as " + kept, 0);
            fault("input 2 x 2 x 2\nadd 0 0 as " + kept, 1);
        }
        Forge x = new Forge();
        for (String name : new String[] {"a", "abcdefgh", "cells", "pop", "before", "xx", "inputs", "number", "tensor",
            "name", "z", "conv".substring(0, 3), "output", "none", "n", "b"}) {
            Check.due("name " + name, Check.network(x, "input 2 x 2 x 2 as " + name + "\nadd " + name + " " + name
                    + " as " + (name.equals("q") ? "r" : "q") + "\nadd q " + name), NONE);
            Check.due("listing", Check.network(x), "input 2 x 2 x 2\nadd 0 0\nadd 1 0\n");
        }
        fault("input 2 x 2 x 2 as abcdefghi", 0);
        fault("input 2 x 2 x 2 as Ab", 0);
        fault("input 2 x 2 x 2 as a1", 0);
        fault("input 2 x 2 x 2 as a\nadd 0 0 as a", 1);
        fault("input 2 x 2 x 2 as a\nadd 0 0 as b\nadd 0 0 as b", 2);
        fault("input 2 x 2 x 2\nadd 0 b as b", 1);
        fault("input 2 x 2 x 2\nadd b b as b\n", 1);
        fault("input 2 x 2 x 2 as b\nadd 0 bb", 1);
        fault("input 2 x 2 x 2 as bb\nadd 0 b", 1);
        fault("input 2 x 2 x 2\nadd 0 0 as b as c", 1);
        fault("input 2 x 2 x 2\nadd 0 0 as", 1);
        fault("input 2 x 2 x 2\nadd 0 0 as relu shift 1", 1);
        // Names of an earlier text are forgotten.
        Check.due("names", Check.network(x, "input 2 x 2 x 2 as a\nadd a a as b"), NONE);
        Check.due("names again", Check.network(x, "input 2 x 2 x 2 as a\nadd a a as b"), NONE);
        Check.due("names that are gone", Check.network(x, "input 2 x 2 x 2\nadd 0 a"), 1);
    }

    private static void listings() {
        Forge x = new Forge();
        Check.due("network", Check.network(x, "input 63 x 10 x 1\nconv 0 at 4000 outputs 1 by 1 x 1"), NONE);
        String first = "input 63 x 10 x 1\n";
        String second = "conv 0 by 1 x 1 outputs 1 at 4000\n";
        Check.due("first", Check.networkLine(x, 0), first);
        Check.due("second", Check.networkLine(x, 1), second);
        Check.due("line end", x.networkSign(0, first.length() - 1), 10);
        Check.due("behind", x.networkSign(0, first.length()), NONE);
        Check.due("far behind", x.networkSign(1, Integer.MAX_VALUE), NONE);
        Check.refuses("no such line", INDEX, () -> x.networkSign(2, 0));
        Check.refuses("no such line", INDEX, () -> x.networkSign(-1, 0));
        Check.refuses("no such sign", INDEX, () -> x.networkSign(0, -1));
        Check.refuses("no such sign", INDEX, () -> x.networkSign(1, Integer.MIN_VALUE));
    }

    private static void places() {
        Forge x = new Forge();
        x.input(4, 5, 1);
        Check.due("place of the input alone", x.place(), 20);
        x.pool(0, 11, 1);
        x.pool(1, 22, 1);
        x.pool(2, 11, 1);
        x.pool(0, 11, 2);
        // 0 is needed up to layer 4, 1 up to 2, 3 and 4 to the end.
        Check.due("place", x.place(), 52);
        formed(x, 1, 4, 5, 1, 20);
        formed(x, 2, 3, 4, 1, 40);
        formed(x, 3, 3, 4, 1, 20);
        formed(x, 4, 2, 3, 1, 32);
        Check.due("a later one", x.pool(4, 11, 1), 5);
        formed(x, 5, 2, 3, 1, 52);
        Check.due("place again", x.place(), 52);
        formed(x, 5, 2, 3, 1, 0);
        x.input(4, 5, 1);
        formed(x, 0, 4, 5, 1, 0);
        x.pool(0, 11, 1);
        formed(x, 1, 4, 5, 1, 20);
        // An input that no layer takes can't be: but a layer that none takes is kept to the end.
        x.input(10, 10, 2);
        x.pool(0, 33, 3);
        x.pool(0, 11, 1);
        x.pool(2, 11, 1);
        Check.due("place", x.place(), 418);
        formed(x, 1, 3, 3, 2, 200);
        formed(x, 2, 10, 10, 2, 218);
        formed(x, 3, 10, 10, 2, 0);
        x.pool(3, 11, 1);
        formed(x, 4, 10, 10, 2, 418);
        Check.due("place", x.place(), 418);
        formed(x, 4, 10, 10, 2, 218);
        // Beyond 2048.
        x.input(17, 20, 2);
        x.pool(0, 11, 1);
        x.pool(1, 11, 1);
        Check.due("place", x.place(), 1360);
        x.pool(0, 33, 3);
        x.pool(1, 33, 3);
        Check.refusesAndKeeps("place", x, UNSUPPORTED, () -> x.place());
        // A network without room in a row of places, which has it anew.
        x.input(16, 16, 4);
        x.pool(0, 11, 1);
        Check.refuses("no room", UNSUPPORTED, () -> x.pool(1, 11, 1));
        Check.due("place", x.place(), 2048);
    }

    /** Tensors that end at 2047 to 2050, by layers and by place(). */
    private static void justBeyond() {
        int[] met = new int[8];
        for (int height = 20; height <= 63; height++) {
            for (int width = 10; width <= 63 && height * width <= 2048; width++) {
                for (int kernel : new int[] {11, 12, 13, 21, 22, 23, 31, 32, 33}) {
                    for (int step = 1; step <= 3; step++) {
                        int size = height * width;
                        int more = ((height - kernel / 10) / step + 1) * ((width - kernel % 10) / step + 1);
                        if (Math.abs(size + more - 2048) <= 2) {
                            met[endOfLayer(height, width, kernel, step, size + more)]++;
                        }
                        if (Math.abs(3 * size + more - 2048) <= 2 && 2 * size + 2 * more <= 2048) {
                            met[4 + endOfPlace(height, width, kernel, step, 3 * size + more)]++;
                        }
                    }
                }
            }
        }
        for (int k = 0; k < 8; k++) {
            Check.holds("each end was met", k % 4 == 0 || met[k] > 0);
        }
    }

    private static int endOfLayer(int height, int width, int kernel, int step, int due) {
        Forge x = new Forge();
        x.input(height, width, 1);
        if (due > 2048) {
            Check.refuses("a layer that ends at " + due, UNSUPPORTED, () -> x.pool(0, kernel, step));
            return due == 2049 ? 1 : 0;
        }
        Check.due("a layer that ends at " + due, x.pool(0, kernel, step), 1);
        return due == 2048 ? 2 : 3;
    }

    private static int endOfPlace(int height, int width, int kernel, int step, int due) {
        Forge x = new Forge();
        x.input(height, width, 1);
        x.pool(0, 11, 1);
        x.pool(1, 11, 1);
        Check.due("place", x.place(), 2 * height * width);
        x.pool(0, kernel, step);
        x.pool(1, kernel, step);
        if (due > 2048) {
            Check.refusesAndKeeps("places up to " + due, x, UNSUPPORTED, () -> x.place());
            return due == 2049 ? 1 : 0;
        }
        Check.due("places up to " + due, x.place(), due);
        formed(x, 4, x.form(3, 0), x.form(3, 1), 1, 0);
        return due == 2048 ? 2 : 3;
    }
}
