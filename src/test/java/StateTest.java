/** Promises 1 to 10: a new object, side, memory, look, word, cut, wordOf, length, field, illegal. */
public final class StateTest {
    private static final Class<IllegalArgumentException> ARGUMENT = IllegalArgumentException.class;
    private static final Class<IndexOutOfBoundsException> INDEX = IndexOutOfBoundsException.class;
    private static final Class<UnsupportedOperationException> UNSUPPORTED = UnsupportedOperationException.class;

    public static void main(String[] args) {
        newObject();
        side();
        memoryAndLook();
        words();
        fields();
        illegalByHand();
        illegalPlaces();
        illegalFieldsAndTokens();
        Check.finish();
    }

    private static void newObject() {
        Forge x = new Forge();
        for (int what = 0; what < 5; what++) {
            for (int k = 0; k < Check.SIZES[what]; k++) {
                Check.due("new look(" + what + ", " + k + ")", x.look(what, k), 0);
            }
        }
        Check.due("new length()", x.length(), 0);
        Check.due("new put(0)", x.put(0), 0);
        Check.due("new stopped(0)", x.stopped(0), 0);
        Check.due("new form(0, 0)", x.form(0, 0), 1);
        Check.due("new form(0, 1)", x.form(0, 1), 1);
        Check.due("new form(0, 2)", x.form(0, 2), 1);
        Check.due("new form(0, 3)", x.form(0, 3), 0);
        Check.refuses("new form(1, 0)", INDEX, () -> x.form(1, 0));
        Check.due("new network", Check.network(x), "input 1 x 1 x 1\n");
        Check.holds("side 2: two columns", !x.illegal(word(3, 0, 1, 2, 0, 0, 0, 0)));
        Check.holds("side 2: three columns", x.illegal(word(3, 0, 1, 3, 0, 0, 0, 0)));
    }

    /** A word without tokens. */
    private static long word(int kind, int address, int rows, int columns, int a, int b, int stride, int n) {
        return kind | (long) address << 8 | (long) rows << 20 | (long) columns << 26 | (long) a << 31
                | (long) b << 40 | (long) stride << 49 | (long) n << 59;
    }

    private static void side() {
        for (int t = 2; t <= 8; t++) {
            Forge x = new Forge();
            x.side(t);
            Check.holds("as many columns as the side " + t, !x.illegal(word(3, 0, 1, t, 0, 0, 0, 0)));
            Check.holds("one column more than the side " + t, x.illegal(word(3, 0, 1, t + 1, 0, 0, 0, 0)));
        }
        Forge x = new Forge();
        x.input(2, 2, 1);
        x.memory(0, 0x04030201);
        x.memory(100, 7);
        Check.assemble(x, "cells by 1 x 2\nweights by 1 x 2 push behind\n"
                + "multiply by 1 x 2 n 2 pop before\nnarrow by 1 x 2 b 3");
        x.run();
        x.pool(0, 11, 1);
        for (int what = 0; what < 5; what++) {
            Check.holds("something in " + what, x.look(what, what == 4 ? 3 : 0) != 0);
        }
        for (int t : new int[] {1, 0, -1, 9, Integer.MIN_VALUE, Integer.MAX_VALUE}) {
            Check.refusesAndKeeps("side(" + t + ")", x, ARGUMENT, () -> x.side(t));
        }
        x.side(5);
        for (int what = 1; what < 5; what++) {
            for (int k = 0; k < Check.SIZES[what]; k++) {
                Check.due("buffer behind side()", x.look(what, k), 0);
            }
        }
        Check.due("memory behind side()", x.look(0, 1), 2);
        Check.due("memory behind side()", x.look(0, 100), 7);
        Check.due("tensors behind side()", Check.tensors(x), 1);
        Check.due("input behind side()", Check.network(x), "input 2 x 2 x 1\n");
        Check.due("program behind side()", x.length(), 4);
        Check.due("run behind side()", x.stopped(0), 1);
        Check.due("instruction behind side()", x.instruction(2, 2) - x.instruction(2, 1), 1 + 2 * 2 - 2);
        Check.due("under behind side()", x.under(1, x.instruction(2, 1)), 2);
        Check.due("text behind side()", x.assemble(), TensorForge.NONE);
    }

    private static void memoryAndLook() {
        Forge x = new Forge();
        x.memory(4092, 0x80FF7F01);
        Check.due("lowest byte", x.look(0, 4092), 1);
        Check.due("second byte", x.look(0, 4093), 127);
        Check.due("third byte", x.look(0, 4094), -1);
        Check.due("fourth byte", x.look(0, 4095), -128);
        x.memory(1, -1);
        Check.due("byte ahead", x.look(0, 0), 0);
        Check.due("byte behind", x.look(0, 5), 0);
        for (int at : new int[] {-1, 4093, 4094, 4095, 4096, Integer.MIN_VALUE, Integer.MAX_VALUE}) {
            Check.refusesAndKeeps("memory(" + at + ")", x, INDEX, () -> x.memory(at, 5));
        }
        for (int what : new int[] {-1, 5, Integer.MIN_VALUE, Integer.MAX_VALUE}) {
            Check.refusesAndKeeps("look(" + what + ", 0)", x, ARGUMENT, () -> x.look(what, 0));
            Check.refuses("look(" + what + ", -1)", ARGUMENT, () -> x.look(what, -1));
        }
        for (int what = 0; what < 5; what++) {
            int space = what;
            Check.refuses("look behind the end", INDEX, () -> x.look(space, Check.SIZES[space]));
            Check.refuses("look ahead", INDEX, () -> x.look(space, -1));
            Check.refuses("look far", INDEX, () -> x.look(space, Integer.MAX_VALUE));
            Check.refuses("look far ahead", INDEX, () -> x.look(space, Integer.MIN_VALUE));
        }
    }

    private static void words() {
        Forge x = new Forge();
        Check.refuses("wordOf(0) of none", INDEX, () -> x.wordOf(0));
        for (int i = 0; i < 400; i++) {
            x.word(i, i * 0x123456789ABCDEFL);
            Check.due("length", x.length(), i + 1);
        }
        for (int i = 0; i < 400; i++) {
            Check.due("wordOf(" + i + ")", x.wordOf(i), i * 0x123456789ABCDEFL);
        }
        x.word(399, -1);
        Check.due("word anew", x.wordOf(399), -1);
        Check.due("length of a word anew", x.length(), 400);
        Check.refusesAndKeeps("word(401) of 400", x, INDEX, () -> x.word(401, 1));
        Check.refusesAndKeeps("cut(401)", x, ARGUMENT, () -> x.cut(401));
        Check.refusesAndKeeps("cut(-1)", x, ARGUMENT, () -> x.cut(-1));
        x.cut(400);
        Check.due("length behind cut(400)", x.length(), 400);
        x.cut(3);
        Check.due("length behind cut(3)", x.length(), 3);
        Check.due("word 2 behind cut(3)", x.wordOf(2), 2 * 0x123456789ABCDEFL);
        Check.refuses("wordOf(3) behind cut(3)", INDEX, () -> x.wordOf(3));
        Check.refuses("wordOf(-1)", INDEX, () -> x.wordOf(-1));
        Check.refusesAndKeeps("cut(4) of 3", x, ARGUMENT, () -> x.cut(4));
        Check.refusesAndKeeps("word(4) of 3", x, INDEX, () -> x.word(4, 4));
        x.word(3, 9);
        Check.due("word 3", x.wordOf(3), 9);
        x.cut(0);
        Check.due("length behind cut(0)", x.length(), 0);
        fullProgram();
    }

    private static void fullProgram() {
        Forge x = Check.fullProgram();
        Check.due("length", x.length(), 600);
        Check.refusesAndKeeps("word(600) of 600", x, UNSUPPORTED, () -> x.word(600, 1));
        Check.refusesAndKeeps("word(601) of 600", x, INDEX, () -> x.word(601, 1));
        Check.refusesAndKeeps("word(-1)", x, INDEX, () -> x.word(-1, 1));
        x.word(599, -1);
        Check.due("word anew", x.wordOf(599), -1);
        Check.due("length of a word anew", x.length(), 600);
        Check.refusesAndKeeps("cut(601)", x, ARGUMENT, () -> x.cut(601));
        x.cut(600);
        Check.due("length behind cut(600)", x.length(), 600);
        x.cut(599);
        Check.refusesAndKeeps("cut(600) of 599", x, ARGUMENT, () -> x.cut(600));
        x.word(599, 5);
        Check.due("word 599", x.wordOf(599), 5);
    }

    private static void fields() {
        Forge x = new Forge();
        int[] bits = {4, 1, 1, 1, 1, 12, 6, 5, 9, 9, 10, 5};
        int from = 0;
        for (int which = 0; which < 12; which++) {
            long most = (1L << bits[which]) - 1;
            Check.due("field " + which + " of all ones", x.field(-1L, which), most);
            Check.due("field " + which + " of its own", x.field(most << from, which), most);
            Check.due("field " + which + " of others", x.field(~(most << from), which), 0);
            Check.due("field " + which + " lowest bit", x.field(1L << from, which), 1);
            from += bits[which];
        }
        Check.due("bits in all", from, 64);
        for (int which : new int[] {-1, 12, Integer.MIN_VALUE, Integer.MAX_VALUE}) {
            Check.refuses("field " + which, ARGUMENT, () -> x.field(1, which));
        }
    }

    private static void illegalByHand() {
        Forge x = new Forge();
        for (int kind : new int[] {0, 10, 11, 12, 13, 14, 15}) {
            Check.holds("kind " + kind, x.illegal(kind));
            Check.holds("kind " + kind, x.illegal(word(kind, 0, 1, 1, 0, 0, 0, 0)));
        }
        for (int kind = 1; kind <= 8; kind++) {
            int n = kind == 5 ? 2 : 0;
            Check.holds("plain " + kind, !x.illegal(word(kind, 0, 1, 1, 0, 0, 0, n)));
            Check.holds("no rows " + kind, x.illegal(word(kind, 0, 0, 1, 0, 0, 0, n)));
            Check.holds("no columns " + kind, x.illegal(word(kind, 0, 1, 0, 0, 0, 0, n)));
            Check.holds("columns " + kind, !x.illegal(word(kind, 0, 1, 2, 0, 0, 0, n)));
            Check.holds("columns above the side " + kind, x.illegal(word(kind, 0, 1, 3, 0, 0, 0, n)));
            Check.holds("63 rows " + kind, !x.illegal(word(kind, 0, 63, 1, 0, 0, 0, n)));
        }
        for (int n = 0; n < 32; n++) {
            Check.holds("wait n " + n, x.illegal(word(9, 0, 0, 0, 0, 0, 0, n)) == n > 2);
            Check.holds("combine n " + n, x.illegal(word(6, 0, 1, 1, 0, 0, 0, n)) == n > 2);
            Check.holds("narrow n " + n, !x.illegal(word(7, 0, 1, 1, 0, 0, 0, n)));
            Check.holds("multiply n " + n, x.illegal(word(5, 0, 1, 1, 0, 0, 0, n)) == (n < 2 || n > 5));
            for (int kind : new int[] {1, 2, 3, 4, 8}) {
                Check.holds("kind " + kind + " n " + n, x.illegal(word(kind, 0, 1, 1, 0, 0, 0, n)) == n > 0);
            }
        }
        x.side(8);
        for (int n = 0; n < 32; n++) {
            Check.holds("multiply n " + n, x.illegal(word(5, 0, 1, 1, 0, 0, 0, n)) == (n < 2 || n > 17));
        }
        Check.holds("wait of rows", x.illegal(word(9, 0, 1, 0, 0, 0, 0, 0)));
        Check.holds("wait of columns", x.illegal(word(9, 0, 0, 1, 0, 0, 0, 0)));
        Check.holds("wait by 1 x 1", x.illegal(word(9, 0, 1, 1, 0, 0, 0, 0)));
    }

    private static void illegalPlaces() {
        Forge x = new Forge();
        x.side(3);
        edge(x, "memory of cells", word(1, 4096 - 2 - 4 * 10, 5, 2, 0, 0, 10, 0), 1L << 8);
        edge(x, "memory of weights", word(2, 4096 - 2 - 4 * 10, 5, 2, 0, 0, 10, 0), 1L << 8);
        edge(x, "memory of sums", word(4, 4096 - 8 - 4 * 10, 5, 2, 0, 0, 10, 0), 1L << 8);
        edge(x, "memory of store", word(8, 4096 - 2 - 4 * 10, 5, 2, 0, 0, 10, 0), 1L << 8);
        edge(x, "cells of cells", word(1, 0, 5, 2, 512 - 2 - 12, 0, 0, 0), 1L << 31);
        edge(x, "weights of weights", word(2, 0, 5, 2, 512 - 2 - 12, 0, 0, 0), 1L << 31);
        edge(x, "cells of clear", word(3, 0, 5, 2, 512 - 2 - 12, 0, 0, 0), 1L << 31);
        edge(x, "sums of sums", word(4, 0, 5, 2, 256 - 2 - 12, 0, 0, 0), 1L << 31);
        edge(x, "cells of multiply", word(5, 0, 5, 2, 512 - 3 - 12, 0, 0, 7), 1L << 31);
        edge(x, "sums of multiply", word(5, 0, 5, 2, 0, 256 - 2 - 12, 0, 7), 1L << 40);
        edge(x, "weights of multiply", word(5, 0, 5, 2, 0, 0, 512 - 2 - 6, 7), 1L << 49);
        edge(x, "cells of combine", word(6, 0, 5, 2, 512 - 2 - 12, 0, 0, 1), 1L << 31);
        edge(x, "sums of combine", word(6, 0, 5, 2, 0, 256 - 2 - 12, 0, 0), 1L << 40);
        edge(x, "sums of narrow", word(7, 0, 5, 2, 256 - 2 - 12, 0, 0, 0), 1L << 31);
        edge(x, "results of narrow", word(7, 0, 5, 2, 0, 256 - 2 - 12, 0, 0), 1L << 40);
        edge(x, "results of store", word(8, 0, 5, 2, 256 - 2 - 12, 0, 0, 0), 1L << 31);
    }

    private static void edge(Forge x, String what, long last, long oneMore) {
        Check.holds(what + ", the last place", !x.illegal(last));
        Check.holds(what + ", behind the last place", x.illegal(last + oneMore));
    }

    private static void illegalFieldsAndTokens() {
        Forge x = new Forge();
        // For each kind which of ADDRESS, A, B, STRIDE it names.
        int[] lowest = {8, 31, 40, 49};
        boolean[][] names = {
            {}, {true, true, false, true}, {true, true, false, true}, {false, true, false, false},
            {true, true, false, true}, {false, true, true, true}, {false, true, true, false},
            {false, true, true, false}, {true, true, false, true}, {false, false, false, false}};
        for (int kind = 1; kind <= 9; kind++) {
            long plain = kind == 9 ? 9 : word(kind, 0, 1, 1, 0, 0, 0, kind == 5 ? 2 : 0);
            for (int k = 0; k < 4; k++) {
                Check.holds("kind " + kind + ", bit " + lowest[k],
                        x.illegal(plain | 1L << lowest[k]) != names[kind][k]);
            }
            int unit = kind == 9 ? 0 : kind <= 4 ? 0 : kind <= 7 ? 1 : 2;
            for (int n = 0; n < (kind == 9 ? 3 : 1); n++) {
                long of = plain | (kind == 9 ? (long) n << 59 : 0);
                int its = kind == 9 ? n : unit;
                Check.holds("pop before " + kind, x.illegal(of | 1L << 4) == (its == 0));
                Check.holds("pop behind " + kind, x.illegal(of | 1L << 5) == (its == 2));
                Check.holds("push before " + kind, x.illegal(of | 1L << 6) == (its == 0));
                Check.holds("push behind " + kind, x.illegal(of | 1L << 7) == (its == 2));
            }
        }
    }
}
