/** Promises 11 to 14: put, end, assemble, listing. */
public final class TextTest {
    private static final Class<IllegalArgumentException> ARGUMENT = IllegalArgumentException.class;
    private static final Class<IndexOutOfBoundsException> INDEX = IndexOutOfBoundsException.class;
    private static final int NONE = TensorForge.NONE;

    public static void main(String[] args) {
        put();
        end();
        assembles();
        faults();
        numbers();
        listings();
        Check.finish();
    }

    private static void put() {
        Forge x = new Forge();
        Check.due("put of one", x.put('w'), 1);
        Check.due("put with 0 within", x.put('a' << 8 | 'i' << 24), 3);
        Check.due("put of none", x.put(0), 3);
        Check.due("put of four", x.put('t' | ' ' << 8 | '\n' << 16 | '~' << 24), 7);
        int before = x.changes();
        for (int sign = 1; sign < 256; sign++) {
            boolean fine = sign == 10 || sign >= 32 && sign <= 126;
            for (int k = 0; k < 4; k++) {
                int four = ('a' | 'a' << 8 | 'a' << 16 | 'a' << 24) & ~(255 << 8 * k) | sign << 8 * k;
                x.end(7);
                if (fine) {
                    Check.due("put of sign " + sign, x.put(four), 11);
                } else {
                    Check.refuses("put of sign " + sign, ARGUMENT, () -> x.put(four));
                    Check.due("signs behind", x.put(0), 7);
                }
                x.end(7);
                x.keep(before);
            }
        }
        x.end(5);
        Check.refusesAndKeeps("put(127)", x, ARGUMENT, () -> x.put(127));
        x.end(0);
        x.put('w' | 'a' << 8 | 'i' << 16 | 't' << 24);
        Check.due("assemble of wait", x.assemble(), NONE);
        x.end(0);
        for (int k = 0; k < 374; k++) {
            x.put(0x20202020);
        }
        Check.due("put of three", x.put(0x202020), 1499);
        Check.refusesAndKeeps("put of two too many", x, UnsupportedOperationException.class, () -> x.put(0x2020));
        Check.refuses("put of a wrong one and too many", ARGUMENT, () -> x.put(0x7F2020));
        Check.due("put of the last", x.put(0x20000000), 1500);
        Check.due("put of none", x.put(0), 1500);
        Check.refuses("put of one more", UnsupportedOperationException.class, () -> x.put(32));
    }

    private static void end() {
        Forge x = new Forge();
        Check.write(x, "wait\nwait ?");
        Check.due("fault", x.assemble(), 1);
        Check.refusesAndKeeps("end(12)", x, ARGUMENT, () -> x.end(12));
        Check.refusesAndKeeps("end(-1)", x, ARGUMENT, () -> x.end(-1));
        x.end(11);
        Check.due("signs", x.put(0), 11);
        x.end(9);
        Check.due("signs", x.put(0), 9);
        Check.due("assemble", x.assemble(), NONE);
        Check.due("length", x.length(), 2);
        Check.due("signs stay", x.put(0), 9);
        x.end(0);
        Check.due("assemble of nothing", x.assemble(), NONE);
        Check.due("length of nothing", x.length(), 0);
    }

    private static void assembles() {
        Forge x = new Forge();
        String[] kinds = {"cells", "weights", "clear", "sums", "multiply", "combine", "narrow", "store", "wait"};
        for (int k = 0; k < 9; k++) {
            Check.due(kinds[k], Check.assemble(x, kinds[k]), NONE);
            Check.due(kinds[k], x.wordOf(0), k + 1);
        }
        Check.due("fields", Check.assemble(x, "wait at 1 by 2 x 3 a 4 b 5 step 6 n 7 push behind pop before"), NONE);
        int[] due = {9, 1, 0, 0, 1, 1, 2, 3, 4, 5, 6, 7};
        for (int which = 0; which < 12; which++) {
            Check.due("field " + which, x.field(x.wordOf(0), which), due[which]);
        }
        long word = x.wordOf(0);
        Check.due("other order", Check.assemble(x,
                "wait pop before n 7 by 2 x 3 push behind step 6 at 1 b 5 a 4"), NONE);
        Check.due("other order", x.wordOf(0), word);
        Check.due("no blanks", Check.assemble(x, "wait at1by2x3a4b5step6n7push behind pop before"), NONE);
        Check.due("no blanks", x.wordOf(0), word);
        Check.due("many blanks", Check.assemble(x, "   wait   at  1 by 2x 3 a 4 b 5 step 6 n 7 push   behind pop  before  "),
                NONE);
        Check.due("many blanks", x.wordOf(0), word);
        Check.due("zeros", Check.assemble(x, "wait at 0 by 0 x 0 a 0 b 0000 step 00 n 000"), NONE);
        Check.due("zeros", x.wordOf(0), 9);
        Check.due("pops", Check.assemble(x, "wait pop before pop behind push before push behind"), NONE);
        Check.due("pops", x.wordOf(0), 0xF9);
        Check.due("comments", Check.assemble(x, "\n# a Comment! 12345\n   \n wait#behind\n\ncells # at at\n#"), NONE);
        Check.due("comments", Check.program(x), "wait\ncells\n");
        Forge full = new Forge();
        Check.due("300 lines", Check.assemble(full, "sums\n".repeat(300)), NONE);
        Check.due("300 lines", full.length(), 300);
        Check.due("signs stay", full.put(0), 1500);
        Check.due("again", full.assemble(), NONE);
    }

    private static void fault(String text, int line) {
        Forge x = new Forge();
        x.word(0, 77);
        Check.write(x, text);
        String before = Check.all(x);
        Check.due("assemble of " + text, x.assemble(), line);
        Check.due("all behind a fault", Check.all(x), before);
    }

    private static void faults() {
        fault("?", 0);
        fault("wait\n\n?", 2);
        fault("wait\n# ?\n\nwait ?\n?", 3);
        fault("Wait", 0);
        fault("wait N 1", 0);
        fault("waits", 0);
        fault("wai", 0);
        fault("5", 0);
        fault("wait wait", 0);
        fault("wait cells", 0);
        fault("at 5 wait", 0);
        fault("wait 5", 0);
        fault("wait at", 0);
        fault("wait at at 5", 0);
        fault("wait at x", 0);
        fault("wait at 5 5", 0);
        fault("wait at -5", 0);
        fault("wait at 5, n 1", 0);
        fault("wait at\n5", 0);
        fault("wait by", 0);
        fault("wait by 5", 0);
        fault("wait by 5 x", 0);
        fault("wait by 5 5", 0);
        fault("wait by x 5", 0);
        fault("wait by 5 x x", 0);
        fault("wait by 5 n 5", 0);
        fault("wait by 5 x 5 x 5", 0);
        fault("wait x 5", 0);
        fault("wait pop", 0);
        fault("wait push", 0);
        fault("wait pop 1", 0);
        fault("wait pop before behind", 0);
        fault("wait popbefore", 0);
        fault("wait pop push", 0);
        fault("wait before", 0);
        fault("wait pop n 1", 0);
        for (String twice : new String[] {"at 1", "by 1 x 1", "a 1", "b 1", "step 1", "n 1", "at 0", "by 0 x 0",
            "pop before", "pop behind", "push before", "push behind"}) {
            Forge x = new Forge();
            Check.due("once " + twice, Check.assemble(x, "wait " + twice), NONE);
            fault("wait " + twice + " " + twice, 0);
            fault("wait " + twice + " pop behind push before " + twice, 0);
        }
    }

    private static void numbers() {
        String[] names = {"at ", "by 1 x ", "by ", "a ", "b ", "step ", "n "};
        String[] behind = {"", "", " x 1", "", "", "", ""};
        int[] most = {4095, 31, 63, 511, 511, 1023, 31};
        for (int k = 0; k < names.length; k++) {
            Forge x = new Forge();
            Check.due("most of " + names[k], Check.assemble(x, "wait " + names[k] + most[k] + behind[k]), NONE);
            fault("wait " + names[k] + (most[k] + 1) + behind[k], 0);
            fault("wait " + names[k] + "9999" + behind[k], 0);
            fault("wait " + names[k] + "00001" + behind[k], 0);
            fault("wait " + names[k] + "4294967297" + behind[k], 0);
            Check.due("four digits", Check.assemble(x, "wait " + names[k] + "0001" + behind[k]), NONE);
        }
    }

    private static void listings() {
        Forge x = new Forge();
        x.word(0, -1L);
        x.word(1, 0);
        x.word(2, 9);
        x.word(3, 3L | 63L << 20);
        x.word(4, 3L | 31L << 26);
        x.word(5, 10L << 8 | 0x55);
        x.word(6, 5L | 0xA0 | 7L << 31 | 100L << 40 | 1000L << 49 | 1L << 59);
        String[] due = {
            "? at 4095 by 63 x 31 a 511 b 511 step 1023 n 31 pop before pop behind push before push behind\n",
            "?\n", "wait\n", "clear by 63 x 0\n", "clear by 0 x 31\n", "multiply at 10 pop before push before\n",
            "multiply a 7 b 100 step 1000 n 1 pop behind push behind\n"};
        for (int i = 0; i < due.length; i++) {
            Check.due("listing of " + i, Check.listing(x, i), due[i]);
            Check.due("line end", x.listing(i, due[i].length() - 1), 10);
            Check.due("behind the line end", x.listing(i, due[i].length()), NONE);
            Check.due("far behind", x.listing(i, Integer.MAX_VALUE), NONE);
        }
        Check.refuses("listing(-1, 0)", INDEX, () -> x.listing(-1, 0));
        Check.refuses("listing(7, 0)", INDEX, () -> x.listing(7, 0));
        Check.refuses("listing(0, -1)", INDEX, () -> x.listing(0, -1));
        Check.refuses("listing(0, least)", INDEX, () -> x.listing(0, Integer.MIN_VALUE));
    }
}
