/** Promises 1 to 10 and the sentences behind the document's terms, sentence by sentence. */
public final class StateSentencesTest {
    private static final Class<IllegalArgumentException> ARGUMENT = IllegalArgumentException.class;
    private static final Class<IndexOutOfBoundsException> INDEX = IndexOutOfBoundsException.class;
    private static final Class<UnsupportedOperationException> UNSUPPORTED = UnsupportedOperationException.class;
    private static final Class<IllegalStateException> STATE = IllegalStateException.class;
    private static final int NONE = TensorForge.NONE;
    private static final int MAX = Integer.MAX_VALUE;
    private static final int MIN = Integer.MIN_VALUE;

    public static void main(String[] args) {
        none();
        calls();
        newSide();
        newState();
        newProgramAndText();
        newNetwork();
        sideClearsBuffers();
        sideDropsLayers();
        sideRefuses();
        memoryOfFourBytes();
        memoryRefuses();
        lookAtAll();
        lookAtAnother();
        lookAtNothing();
        wordBecomes();
        wordMakesLonger();
        wordIndex();
        wordBeyond600();
        cutToFirst();
        cutRefuses();
        wordOfEach();
        wordOfNone();
        lengths();
        fieldZeroOrAbove();
        fieldAnother();
        illegalWithTheSide();
        throwsAndKeeps();
        firstNamed();
        textsStay();
        staysWithAnotherSide();
        Check.finish();
    }

    private static void none() {
        Check.sentence("NONE = -1");
        Check.due("NONE", TensorForge.NONE, -1);
    }

    private static void calls() {
        Check.sentence("An object is used for at most 512 calls after it has been made");
        TensorForge a = new TensorForge();
        for (int k = 0; k < 511; k++) {
            a.word(k, -k);
        }
        Check.due("512th call: length", a.length(), 511);
        TensorForge b = new TensorForge();
        for (int k = 0; k < 510; k++) {
            b.word(k, 9);
        }
        b.run();
        Check.due("512th call: stopped", b.stopped(2), 510);
        TensorForge c = new TensorForge();
        for (int k = 0; k < 511; k++) {
            c.memory(4 * k, k);
        }
        Check.due("512th call: look", c.look(0, 4 * 510), (byte) 510);
        TensorForge d = new TensorForge();
        d.pool(0, 11, 1);
        for (int k = 0; k < 510; k++) {
            Check.due("compile", d.compile(), 7);
        }
        Check.due("512th call: run", d.run(), 1);
        TensorForge e = new TensorForge();
        for (int k = 0; k < 511; k++) {
            Check.refuses("side(9)", ARGUMENT, () -> e.side(9));
        }
        Check.due("512th call: put", e.put('w'), 1);
    }

    private static void newSide() {
        Check.sentence("A new object: Side 2");
        Forge x = new Forge();
        Check.holds("two columns are legal", !x.illegal(Word.of("clear by 1 x 2")));
        Check.holds("three aren't", x.illegal(Word.of("clear by 1 x 3")));
        Check.due("run", Word.run(x, "multiply by 1 x 1 n 2"), 1);
        Check.due("1 + 2 * 2 - 2 cycles", x.stopped(2), 3);
    }

    private static void newState() {
        Check.sentence("A new object: all is 0");
        Forge x = new Forge();
        for (int what = 0; what < 5; what++) {
            for (int k = 0; k < Check.SIZES[what]; k++) {
                Check.due("look(" + what + ", " + k + ")", x.look(what, k), 0);
            }
        }
        Check.due("stopped(0)", x.stopped(0), 0);
    }

    private static void newProgramAndText() {
        Check.sentence("A new object: an empty program and text");
        Forge x = new Forge();
        Check.due("length", x.length(), 0);
        Check.refuses("wordOf(0)", INDEX, () -> x.wordOf(0));
        Check.refuses("listing(0, 0)", INDEX, () -> x.listing(0, 0));
        Check.due("put(0)", x.put(0), 0);
        Check.refuses("end(1)", ARGUMENT, () -> x.end(1));
        Check.due("assemble", x.assemble(), NONE);
        Check.due("length", x.length(), 0);
        Check.due("run", x.run(), 1);
    }

    private static void newNetwork() {
        Check.sentence("A new object: an input of one cell, no layers");
        Forge x = new Forge();
        Check.due("network", Check.network(x), "input 1 x 1 x 1\n");
        for (int what = 0; what < 4; what++) {
            Check.due("form(0, " + what + ")", x.form(0, what), what < 3 ? 1 : 0);
        }
        Check.refuses("form(1, 0)", INDEX, () -> x.form(1, 0));
        Check.due("compile", x.compile(), 0);
        Check.due("the first layer", x.pool(0, 11, 1), 1);
    }

    /** Something in the memory, all buffers, the program, the text, the network; and a run. */
    private static Forge rich() {
        Forge x = new Forge();
        x.side(3);
        x.memory(0, 0x04030201);
        x.memory(4092, -5);
        x.input(3, 4, 2);
        x.pool(0, 22, 1);
        x.convolution(1, 11, 3, 11, 20, 2048);
        x.addition(0, 0, 1);
        x.place();
        Check.due("run", Word.run(x, "cells by 1 x 2", "weights by 2 x 1 step 1", "sums by 1 x 1 a 7 push behind",
                "multiply by 1 x 1 n 4 pop before", "narrow by 1 x 1 b 3 push behind", "store at 50 by 1 x 1 a 3 pop before"), 1);
        Check.write(x, "wait push behind\ninput 2 x 2 x 2");
        for (int what = 0; what < 5; what++) {
            Check.holds("something in " + what, x.look(what, what == 4 ? 3 : 0) != 0);
        }
        return x;
    }

    private static void sideClearsBuffers() {
        Check.sentence("side: A side; buffers 0");
        for (int t : new int[] {3, 2, 8}) {
            Forge x = rich();
            x.side(t);
            for (int what = 1; what < 5; what++) {
                for (int k = 0; k < Check.SIZES[what]; k++) {
                    Check.due("look(" + what + ", " + k + ")", x.look(what, k), 0);
                }
            }
            Check.holds("T columns", !x.illegal(Word.of("clear by 1 x " + t)));
            Check.holds("T + 1 columns", x.illegal(Word.of("clear by 1 x " + (t + 1))));
        }
    }

    private static void sideDropsLayers() {
        Check.sentence("side: no layers");
        for (int t : new int[] {3, 2, 8}) {
            Forge x = rich();
            x.side(t);
            Check.due("network", Check.networkAndPlaces(x), "input 3 x 4 x 2\n0 \n");
            Check.due("compile", x.compile(), 0);
            Check.due("a first layer", x.pool(0, 11, 1), 1);
            Check.due("its place", x.form(1, 3), 24);
        }
    }

    private static void sideRefuses() {
        Check.sentence("side: IllegalArgumentException if it is not 2 .. 8");
        for (int t : new int[] {1, 9, 0, -1, 16, MIN, MAX}) {
            Forge x = rich();
            Check.refusesAndKeeps("side(" + t + ")", x, ARGUMENT, () -> x.side(t));
        }
        for (int t = 2; t <= 8; t++) {
            Forge x = rich();
            x.side(t);
            Check.due("side(" + t + ")", x.look(1, 0), 0);
        }
    }

    private static void memoryOfFourBytes() {
        Check.sentence("memory: Four bytes of the memory become those of v, the lowest first");
        int[][] due = {{0x04030201, 1, 2, 3, 4}, {MIN, 0, 0, 0, -128}, {MAX, -1, -1, -1, 127}, {-1, -1, -1, -1, -1},
            {0x80, -128, 0, 0, 0}, {0x7F80FF00, 0, -1, -128, 127}};
        for (int[] row : due) {
            for (int at : new int[] {0, 1, 2, 3, 2047, 4091, 4092}) {
                Forge x = new Forge();
                x.memory(Math.max(0, at - 4), 0x55555555);
                x.memory(Math.min(4092, at + 4), 0x55555555);
                x.memory(at, row[0]);
                for (int k = 0; k < 4; k++) {
                    Check.due("byte " + k + " of " + row[0] + " at " + at, x.look(0, at + k), row[1 + k]);
                }
                if (at > 0) {
                    Check.due("the byte ahead", x.look(0, at - 1), 0x55);
                }
                if (at < 4092) {
                    Check.due("the byte behind", x.look(0, at + 4), 0x55);
                }
            }
        }
    }

    private static void memoryRefuses() {
        Check.sentence("memory: IndexOutOfBoundsException if they aren't all there");
        for (int at : new int[] {-1, -2, -3, -4, 4093, 4094, 4095, 4096, MIN, MAX, MAX - 3}) {
            Forge x = rich();
            Check.refusesAndKeeps("memory(" + at + ", 77)", x, INDEX, () -> x.memory(at, 77));
        }
        Forge x = new Forge();
        x.memory(0, 1);
        x.memory(4092, 2);
        Check.due("the first four", x.look(0, 0), 1);
        Check.due("the last four", x.look(0, 4092), 2);
    }

    private static void lookAtAll() {
        Check.sentence("look: A byte of the memory (what = 0), CELLS (1), WEIGHTS (2), RESULTS (4), or one of SUMS (3)");
        Forge x = new Forge();
        x.memory(0, 0x81);
        x.memory(4, 1);
        x.memory(8, 0x12345678);
        Check.due("run", Word.run(x, "cells by 1 x 1 a 1", "weights at 4 by 1 x 1 a 2", "sums at 8 by 1 x 1 a 3 push behind",
                "narrow by 1 x 1 a 3 b 4 pop before"), 1);
        Check.due("memory", x.look(0, 0), -127);
        Check.due("CELLS", x.look(1, 1), -127);
        Check.due("WEIGHTS", x.look(2, 2), 1);
        Check.due("SUMS", x.look(3, 3), 0x12345678);
        Check.due("RESULTS", x.look(4, 4), 127);
    }

    private static void lookAtAnother() {
        Check.sentence("look: IllegalArgumentException for another what");
        Forge x = rich();
        for (int what : new int[] {-1, 5, 6, MIN, MAX}) {
            Check.refusesAndKeeps("look(" + what + ", 0)", x, ARGUMENT, () -> x.look(what, 0));
        }
    }

    private static void lookAtNothing() {
        Check.sentence("look: IndexOutOfBoundsException if it isn't there");
        Forge x = rich();
        for (int what = 0; what < 5; what++) {
            int space = what;
            int size = Check.SIZES[what];
            for (int k : new int[] {-1, size, size + 1, MIN, MAX}) {
                Check.refuses("look(" + what + ", " + k + ")", INDEX, () -> x.look(space, k));
            }
            Check.refusesAndKeeps("look(" + what + ", " + size + ")", x, INDEX, () -> x.look(space, size));
            x.look(what, 0);
            x.look(what, size - 1);
        }
    }

    private static void wordBecomes() {
        Check.sentence("word: Word i of the program becomes v");
        Forge x = new Forge();
        for (int i = 0; i < 5; i++) {
            x.word(i, i);
        }
        long[] values = {Long.MIN_VALUE, Long.MAX_VALUE, -1, 0, 0x123456789ABCDEF0L};
        for (int i = 0; i < 5; i++) {
            x.word(i, values[i]);
            Check.due("word " + i, x.wordOf(i), values[i]);
            Check.due("length", x.length(), 5);
            if (i < 4) {
                Check.due("the next one", x.wordOf(i + 1), i + 1);
            }
        }
    }

    private static void wordMakesLonger() {
        Check.sentence("word: one behind the last one makes it longer");
        Forge x = new Forge();
        for (int i = 0; i < 200; i++) {
            x.word(i, 7L * i);
            Check.due("length", x.length(), i + 1);
            Check.due("the word", x.wordOf(i), 7L * i);
        }
        Forge y = Check.fullProgram();
        y.cut(599);
        y.word(599, 77);
        Check.due("up to 600", y.length(), 600);
        Check.due("the 600th", y.wordOf(599), 77);
    }

    private static void wordIndex() {
        Check.sentence("word: IndexOutOfBoundsException if i is below 0 or above how many there are");
        Forge x = new Forge();
        for (int i : new int[] {-1, 1, 2, 600, 601, MIN, MAX}) {
            Check.refusesAndKeeps("word(" + i + ") of none", x, INDEX, () -> x.word(i, 5));
        }
        x.word(0, 1);
        x.word(1, 2);
        for (int i : new int[] {-1, 3, 600, 601, MIN, MAX}) {
            Check.refusesAndKeeps("word(" + i + ") of two", x, INDEX, () -> x.word(i, 5));
        }
        x.cut(1);
        Check.refusesAndKeeps("word(2) behind cut(1)", x, INDEX, () -> x.word(2, 5));
    }

    private static void wordBeyond600() {
        Check.sentence("word: UnsupportedOperationException if there would be more than 600");
        Forge x = Check.fullProgram();
        Check.refusesAndKeeps("word(600)", x, UNSUPPORTED, () -> x.word(600, 5));
        Check.refusesAndKeeps("word(601)", x, INDEX, () -> x.word(601, 5));
        x.word(599, 5);
        Check.due("word(599)", x.wordOf(599), 5);
        x.word(0, 6);
        Check.due("word(0)", x.wordOf(0), 6);
    }

    private static void cutToFirst() {
        Check.sentence("cut: The program has its first n words");
        Forge x = new Forge();
        for (int i = 0; i < 10; i++) {
            x.word(i, 100 + i);
        }
        for (int n : new int[] {10, 9, 5, 1, 0, 0}) {
            x.cut(n);
            Check.due("length behind cut(" + n + ")", x.length(), n);
            for (int i = 0; i < n; i++) {
                Check.due("word " + i, x.wordOf(i), 100 + i);
            }
            Check.refuses("the one behind", INDEX, () -> x.wordOf(n));
        }
        Check.due("run of none", x.run(), 1);
        Check.due("at cycle 0", x.stopped(2), 0);
    }

    private static void cutRefuses() {
        Check.sentence("cut: IllegalArgumentException if n is below 0 or above how many there are");
        Forge x = new Forge();
        Check.refusesAndKeeps("cut(1) of none", x, ARGUMENT, () -> x.cut(1));
        x.word(0, 1);
        x.word(1, 2);
        for (int n : new int[] {-1, 3, 600, MIN, MAX}) {
            Check.refusesAndKeeps("cut(" + n + ") of two", x, ARGUMENT, () -> x.cut(n));
        }
        x.cut(1);
        // A word that is gone doesn't come again.
        Check.refusesAndKeeps("cut(2) of one", x, ARGUMENT, () -> x.cut(2));
        Forge y = Check.fullProgram();
        Check.refusesAndKeeps("cut(601) of 600", y, ARGUMENT, () -> y.cut(601));
        y.cut(600);
        Check.due("cut(600)", y.length(), 600);
    }

    private static void wordOfEach() {
        Check.sentence("wordOf: Word i");
        Forge x = new Forge();
        long[] values = {Long.MIN_VALUE, Long.MAX_VALUE, -1, 0, 1, 1L << 32, -1L << 32};
        for (int i = 0; i < values.length; i++) {
            x.word(i, values[i]);
        }
        for (int i = 0; i < values.length; i++) {
            Check.due("word " + i, x.wordOf(i), values[i]);
        }
        Check.due("the 600th of 600", Check.fullProgram().wordOf(599), Word.of("wait n 2"));
    }

    private static void wordOfNone() {
        Check.sentence("wordOf: IndexOutOfBoundsException if there is none such");
        Forge x = new Forge();
        Check.refuses("of an empty program", INDEX, () -> x.wordOf(0));
        x.word(0, 1);
        x.word(1, 1);
        for (int i : new int[] {-1, 2, 600, MIN, MAX}) {
            Check.refusesAndKeeps("wordOf(" + i + ")", x, INDEX, () -> x.wordOf(i));
        }
        x.cut(1);
        Check.refuses("one that was cut", INDEX, () -> x.wordOf(1));
        Forge y = Check.fullProgram();
        Check.refuses("the 601st", INDEX, () -> y.wordOf(600));
    }

    private static void lengths() {
        Check.sentence("length: How many words the program has");
        Forge x = new Forge();
        Check.due("none", x.length(), 0);
        Check.assemble(x, "wait\n\nwait # two\n");
        Check.due("two by assemble", x.length(), 2);
        Check.assemble(x, "wait\nwait wait");
        Check.due("two behind a fault", x.length(), 2);
        x.pool(0, 11, 1);
        x.compile();
        Check.due("by compile", x.length(), 7);
        Check.assemble(x, "");
        Check.due("none by an empty text", x.length(), 0);
        Check.due("600", Check.fullProgram().length(), 600);
    }

    private static void fieldZeroOrAbove() {
        Check.sentence("field: A field of a word (0 or above): 0 KIND, .. 11 N");
        Forge x = new Forge();
        for (int which = 0; which < 12; which++) {
            Check.due("field " + which + " of all ones", x.field(-1L, which), Word.most(which));
            Check.due("field " + which + " of none", x.field(0L, which), 0);
            for (int bit = 0; bit < 64; bit++) {
                int from = Word.lowest(which);
                boolean its = bit >= from && bit < from + Word.BITS[which];
                Check.due("field " + which + " of bit " + bit, x.field(1L << bit, which), its ? 1L << bit - from : 0);
            }
        }
        Check.due("N of the least long", x.field(Long.MIN_VALUE, 11), 16);
    }

    private static void fieldAnother() {
        Check.sentence("field: IllegalArgumentException for another one");
        Forge x = rich();
        for (int which : new int[] {-1, 12, 13, 64, MIN, MAX}) {
            Check.refusesAndKeeps("field(5, " + which + ")", x, ARGUMENT, () -> x.field(5, which));
        }
    }

    private static void illegalWithTheSide() {
        Check.sentence("illegal: Whether a word is illegal, with the side as it is");
        Forge x = new Forge();
        long wide = Word.of("clear by 1 x 3");
        long deep = Word.of("multiply by 1 x 1 n 6");
        long high = Word.of("narrow by 63 x 1");
        int[][] due = {{2, 1, 1, 0}, {3, 0, 0, 0}, {4, 0, 0, 0}, {5, 0, 0, 1}, {8, 0, 0, 1}, {2, 1, 1, 0}};
        for (int[] row : due) {
            x.side(row[0]);
            Check.due("columns 3 with " + row[0], x.illegal(wide) ? 1 : 0, row[1]);
            Check.due("depth 3 with " + row[0], x.illegal(deep) ? 1 : 0, row[2]);
            Check.due("63 rows with " + row[0], x.illegal(high) ? 1 : 0, row[3]);
        }
        Forge y = rich();
        String before = Check.all(y);
        y.illegal(wide);
        y.illegal(-1L);
        Check.due("it changes nothing", Check.all(y), before);
    }

    private static void throwsAndKeeps() {
        Check.sentence("A call that throws changes nothing");
        Forge x = rich();
        Check.refusesAndKeeps("side", x, ARGUMENT, () -> x.side(9));
        Check.refusesAndKeeps("memory", x, INDEX, () -> x.memory(4093, -1));
        Check.refusesAndKeeps("look", x, ARGUMENT, () -> x.look(5, 0));
        Check.refusesAndKeeps("look", x, INDEX, () -> x.look(4, 256));
        Check.refusesAndKeeps("word", x, INDEX, () -> x.word(x.length() + 1, 1));
        Check.refusesAndKeeps("cut", x, ARGUMENT, () -> x.cut(x.length() + 1));
        Check.refusesAndKeeps("wordOf", x, INDEX, () -> x.wordOf(x.length()));
        Check.refusesAndKeeps("field", x, ARGUMENT, () -> x.field(1, 12));
        Check.refusesAndKeeps("put", x, ARGUMENT, () -> x.put(' ' | ' ' << 8 | 9 << 16));
        Check.refusesAndKeeps("end", x, ARGUMENT, () -> x.end(x.put(0) + 1));
        Check.refusesAndKeeps("listing", x, INDEX, () -> x.listing(x.length(), 0));
        Check.refusesAndKeeps("stopped", x, ARGUMENT, () -> x.stopped(10));
        Check.refusesAndKeeps("instruction", x, INDEX, () -> x.instruction(99, 0));
        Check.refusesAndKeeps("instruction", x, ARGUMENT, () -> x.instruction(0, 3));
        Check.refusesAndKeeps("input", x, ARGUMENT, () -> x.input(0, 1, 1));
        Check.refusesAndKeeps("input", x, ARGUMENT, () -> x.input(63, 33, 1));
        Check.refusesAndKeeps("convolution", x, INDEX, () -> x.convolution(4, 11, 1, 10, 0, 0));
        Check.refusesAndKeeps("convolution", x, ARGUMENT, () -> x.convolution(0, 11, 1, 10, 32, 0));
        Check.refusesAndKeeps("pool", x, INDEX, () -> x.pool(-1, 11, 1));
        Check.refusesAndKeeps("pool", x, ARGUMENT, () -> x.pool(0, 11, 4));
        Check.refusesAndKeeps("addition", x, INDEX, () -> x.addition(0, 4, 0));
        Check.refusesAndKeeps("addition", x, ARGUMENT, () -> x.addition(0, 1, 0));
        Check.refusesAndKeeps("form", x, INDEX, () -> x.form(4, 0));
        Check.refusesAndKeeps("form", x, ARGUMENT, () -> x.form(0, 4));
        Check.refusesAndKeeps("networkSign", x, INDEX, () -> x.networkSign(4, 0));
        Check.refusesAndKeeps("under", x, ARGUMENT, () -> x.under(3, 0));
        Check.refusesAndKeeps("waits", x, ARGUMENT, () -> x.waits(0, -1));
        // The calls behind one that threw answer as if it hadn't been.
        Check.refuses("pool", ARGUMENT, () -> x.pool(0, 44, 1));
        Check.due("the next layer", x.pool(0, 11, 1), 4);
        throwsWithoutRoom();
        throwsWithoutRun();
    }

    private static void throwsWithoutRoom() {
        Forge x = Check.fullProgram();
        Check.write(x, "wait\n");
        Check.refusesAndKeeps("word", x, UNSUPPORTED, () -> x.word(600, 1));
        x.input(32, 32, 1);
        x.pool(0, 11, 1);
        Check.refusesAndKeeps("pool", x, UNSUPPORTED, () -> x.pool(0, 11, 3));
        Check.refusesAndKeeps("convolution", x, UNSUPPORTED, () -> x.convolution(0, 11, 1, 10, 0, 0));
        Check.refusesAndKeeps("addition", x, UNSUPPORTED, () -> x.addition(0, 1, 0));
        x.input(61, 2, 1);
        x.pool(0, 22, 1);
        Check.refusesAndKeeps("compile", x, UNSUPPORTED, () -> x.compile());
        Forge y = new Forge();
        y.input(17, 20, 2);
        y.pool(0, 11, 1);
        y.pool(1, 11, 1);
        y.place();
        y.pool(0, 33, 3);
        y.pool(1, 33, 3);
        Check.refusesAndKeeps("place", y, UNSUPPORTED, () -> y.place());
        Forge z = new Forge();
        Check.append(z, "wait\n".repeat(299) + "wai");
        Check.refusesAndKeeps("put", z, UNSUPPORTED, () -> z.put('t' | '\n' << 8 | '\n' << 24));
        Check.due("what fits is put", z.put('t' | '\n' << 8), 1500);
        Check.due("and is as it must be", z.assemble(), NONE);
    }

    private static void throwsWithoutRun() {
        Forge x = new Forge();
        Word.program(x, "wait");
        Check.refusesAndKeeps("instruction", x, STATE, () -> x.instruction(0, 0));
        Check.refusesAndKeeps("under", x, STATE, () -> x.under(0, 0));
        Check.refusesAndKeeps("waits", x, STATE, () -> x.waits(0, 0));
    }

    private static void firstNamed() {
        Check.sentence("Of several exceptions that one is thrown which the call names first");
        Forge x = rich();
        Check.refuses("look", ARGUMENT, () -> x.look(5, -1));
        Check.refuses("look", ARGUMENT, () -> x.look(-1, 5000));
        Check.refuses("instruction", INDEX, () -> x.instruction(-1, -1));
        Check.refuses("instruction", INDEX, () -> x.instruction(6, 3));
        Check.refuses("form", INDEX, () -> x.form(4, 4));
        Check.refuses("form", INDEX, () -> x.form(-1, -1));
        Check.refuses("convolution", INDEX, () -> x.convolution(9, 44, 0, 0, 99, -1));
        Check.refuses("pool", INDEX, () -> x.pool(9, 44, 0));
        Check.refuses("addition", INDEX, () -> x.addition(0, 9, 99));
        Check.refuses("addition", INDEX, () -> x.addition(9, 0, 99));
        Forge full = Check.fullProgram();
        Check.refuses("word", INDEX, () -> full.word(601, 0));
        Forge y = new Forge();
        Check.append(y, " ".repeat(1500));
        Check.refuses("put", ARGUMENT, () -> y.put('a' | 1 << 8));
        Check.refuses("put", ARGUMENT, () -> y.put('a' | 127 << 24));
        Check.refuses("put", UNSUPPORTED, () -> y.put('a'));
        Forge z = new Forge();
        Check.refuses("instruction", STATE, () -> z.instruction(-1, -1));
        Check.refuses("under", STATE, () -> z.under(-1, -1));
        Check.refuses("waits", STATE, () -> z.waits(-1, -1));
        firstNamedOfLayers();
    }

    private static void firstNamedOfLayers() {
        Forge ten = new Forge();
        for (int k = 0; k < 10; k++) {
            ten.pool(k, 11, 1);
        }
        Check.refuses("convolution: no tensor, ten layers", INDEX, () -> ten.convolution(11, 11, 1, 10, 0, 0));
        Check.refuses("convolution: wrong, ten layers", ARGUMENT, () -> ten.convolution(10, 12, 1, 10, 0, 0));
        Check.refuses("convolution: ten layers", UNSUPPORTED, () -> ten.convolution(10, 11, 1, 10, 0, 0));
        Check.refuses("pool: no tensor, ten layers", INDEX, () -> ten.pool(11, 11, 1));
        Check.refuses("pool: wrong, ten layers", ARGUMENT, () -> ten.pool(10, 11, 0));
        Check.refuses("pool: ten layers", UNSUPPORTED, () -> ten.pool(10, 11, 1));
        Check.refuses("addition: no tensor, ten layers", INDEX, () -> ten.addition(10, 11, 0));
        Check.refuses("addition: wrong, ten layers", ARGUMENT, () -> ten.addition(10, 10, 32));
        Check.refuses("addition: ten layers", UNSUPPORTED, () -> ten.addition(10, 10, 0));
        Forge full = new Forge();
        full.input(32, 32, 2);
        Check.refuses("convolution: wrong, beyond 2048", ARGUMENT, () -> full.convolution(0, 11, 1, 10, 0, 4091));
        Check.refuses("convolution: beyond 2048", UNSUPPORTED, () -> full.convolution(0, 11, 1, 10, 0, 4090));
        Check.refuses("pool: wrong, beyond 2048", ARGUMENT, () -> full.pool(0, 14, 1));
        Check.refuses("pool: beyond 2048", UNSUPPORTED, () -> full.pool(0, 13, 1));
        Check.refuses("addition: wrong, beyond 2048", ARGUMENT, () -> full.addition(0, 0, -1));
        Check.refuses("addition: beyond 2048", UNSUPPORTED, () -> full.addition(0, 0, 1));
        full.input(2, 2, 1);
        full.pool(0, 22, 1);
        full.input(24, 43, 1);
        full.pool(0, 22, 1);
        Check.refuses("addition: unlike, beyond 2048", ARGUMENT, () -> full.addition(0, 1, 0));
    }

    private static void textsStay() {
        Check.sentence("Texts stay when they are read");
        Forge x = new Forge();
        Check.write(x, "wait n 1\nwait n 2 # two");
        for (int k = 0; k < 3; k++) {
            Check.due("assemble", x.assemble(), NONE);
            Check.due("program", Check.program(x), "wait n 1\nwait n 2\n");
            Check.due("signs", x.put(0), 23);
            Check.due("network", x.network(), 0);
            Check.due("signs", x.put(0), 23);
            x.cut(0);
        }
        Check.write(x, "input 3 x 3 x 3\nadd 0 0");
        for (int k = 0; k < 3; k++) {
            Check.due("network", x.network(), NONE);
            Check.due("network", Check.network(x), "input 3 x 3 x 3\nadd 0 0\n");
            Check.due("assemble", x.assemble(), 0);
            Check.due("signs", x.put(0), 23);
            x.input(1, 1, 1);
        }
        x.side(5);
        Check.due("network with another side", x.network(), NONE);
        x.run();
        x.compile();
        x.reckon();
        x.place();
        Check.due("signs", x.put(0), 23);
    }

    private static void staysWithAnotherSide() {
        Check.sentence("programs, memory, the input's form and what is told of the latest run stay with another side");
        Forge x = rich();
        StringBuilder memory = new StringBuilder();
        Check.looks(x, 0, memory);
        String words = Check.words(x);
        String run = Check.latestRun(x);
        int signs = x.put(0);
        for (int t : new int[] {8, 2, 3}) {
            x.side(t);
            StringBuilder after = new StringBuilder();
            Check.looks(x, 0, after);
            Check.due("memory", after.toString(), memory.toString());
            Check.due("program", Check.words(x), words);
            Check.due("the latest run", Check.latestRun(x), run);
            Check.due("the text", x.put(0), signs);
            Check.due("the text's fault", x.twin().assemble(), 1);
            for (int what = 0; what < 4; what++) {
                Check.due("the input's form", x.form(0, what), new int[] {3, 4, 2, 0}[what]);
            }
        }
    }
}
