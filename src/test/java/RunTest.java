/** Promises 15, 16, 17, 28 and 29: run, stopped, instruction, under, waits, by hand. */
public final class RunTest {
    private static final Class<IllegalArgumentException> ARGUMENT = IllegalArgumentException.class;
    private static final Class<IndexOutOfBoundsException> INDEX = IndexOutOfBoundsException.class;
    private static final Class<IllegalStateException> STATE = IllegalStateException.class;
    private static final int NONE = TensorForge.NONE;

    public static void main(String[] args) {
        withoutRun();
        empty();
        illegalOnes();
        kinds();
        narrows();
        wraps();
        cycles();
        tokens();
        races();
        stuck();
        longest();
        fullProgram();
        laterChanges();
        Check.finish();
    }

    private static Forge ran(int side, String text, int why) {
        Forge x = new Forge();
        x.side(side);
        Check.due("assemble of " + text, Check.assemble(x, text), NONE);
        Check.due("run of " + text, x.run(), why);
        return x;
    }

    private static void told(Forge x, int... due) {
        for (int what = 0; what < due.length; what++) {
            Check.due("stopped(" + what + ")", x.stopped(what), due[what]);
        }
    }

    private static void times(Forge x, int i, int unit, int began, int ended) {
        Check.due("unit of " + i, x.instruction(i, 0), unit);
        Check.due("begin of " + i, x.instruction(i, 1), began);
        Check.due("end of " + i, x.instruction(i, 2), ended);
    }

    private static void withoutRun() {
        Forge x = new Forge();
        x.word(0, 9);
        Check.due("stopped(0) without a run", x.stopped(0), 0);
        Check.refuses("stopped(-1)", ARGUMENT, () -> x.stopped(-1));
        Check.refuses("stopped(10)", ARGUMENT, () -> x.stopped(10));
        Check.refusesAndKeeps("instruction without a run", x, STATE, () -> x.instruction(-1, -1));
        Check.refusesAndKeeps("under without a run", x, STATE, () -> x.under(-1, -1));
        Check.refusesAndKeeps("waits without a run", x, STATE, () -> x.waits(-1, -1));
    }

    private static void empty() {
        Forge x = ran(2, "", 1);
        told(x, 1, NONE, 0, 0, 0, 0, 0, 0, 0, 0);
        Check.refuses("instruction of none", INDEX, () -> x.instruction(0, 0));
        Check.due("under of none", x.under(2, 0), NONE);
        Check.due("waits of none", x.waits(1, 5), 0);
    }

    private static void illegalOnes() {
        Forge x = ran(2, "wait push behind\nclear by 1 x 1\nclear by 1 x 3\nwait n 3", 2);
        told(x, 2, 2, 0, 0, 0, 0, 0, 0, 0, 0);
        Check.refuses("instruction of an illegal run", STATE, () -> x.instruction(0, 0));
        Check.refuses("under of an illegal run", STATE, () -> x.under(0, 0));
        Check.refuses("waits of an illegal run", STATE, () -> x.waits(3, 0));
        x.side(3);
        Check.due("the latest run stays", x.stopped(1), 2);
        Check.due("run with another side", x.run(), 2);
        Check.due("another one is illegal", x.stopped(1), 3);
        x.cut(3);
        Check.due("run of the first", x.run(), 1);
        told(x, 1, NONE, 5, 5, 0, 0, 1, 0, 0, 0);
        Check.refuses("instruction(3, 0)", INDEX, () -> x.instruction(3, 0));
        Check.refuses("instruction(-1, 0)", INDEX, () -> x.instruction(-1, 9));
        Check.refuses("instruction(0, 3)", ARGUMENT, () -> x.instruction(0, 3));
        Check.refuses("instruction(0, -1)", ARGUMENT, () -> x.instruction(0, -1));
        Check.refuses("under(3, 0)", ARGUMENT, () -> x.under(3, 0));
        Check.refuses("under(-1, 0)", ARGUMENT, () -> x.under(-1, 0));
        Check.refuses("under(0, -1)", ARGUMENT, () -> x.under(0, -1));
        Check.refuses("waits(3, 0)", ARGUMENT, () -> x.waits(3, 0));
        Check.refuses("waits(-1, 0)", ARGUMENT, () -> x.waits(-1, 0));
        Check.refuses("waits(0, -1)", ARGUMENT, () -> x.waits(0, -1));
        // Nothing is done if one is illegal, not even by those ahead.
        Forge y = new Forge();
        y.memory(0, 5);
        Check.assemble(y, "cells by 1 x 1\ncells by 1 x 1 n 1");
        Check.due("run", y.run(), 2);
        Check.due("cells", y.look(1, 0), 0);
    }

    private static void kinds() {
        Forge x = new Forge();
        x.side(3);
        for (int k = 0; k < 64; k += 4) {
            x.memory(k, k + 1 | k + 2 << 8 | k + 3 << 16 | k + 4 << 24);
        }
        Check.assemble(x, "cells at 2 by 2 x 3 a 4 step 10\nweights at 5 by 3 x 2 a 7 step 1");
        Check.due("loads", x.run(), 1);
        int[] cells = {3, 4, 5, 13, 14, 15};
        for (int k = 0; k < 6; k++) {
            Check.due("cells " + k, x.look(1, 4 + k), cells[k]);
        }
        Check.due("cells ahead", x.look(1, 3), 0);
        Check.due("cells behind", x.look(1, 10), 0);
        int[] weights = {6, 7, 0, 7, 8, 0, 8, 9, 0};
        for (int k = 0; k < 9; k++) {
            Check.due("weights " + k, x.look(2, 7 + k), weights[k]);
        }
        Check.assemble(x, "clear by 2 x 1 a 5\nsums at 8 by 2 x 2 a 100 step 5");
        Check.due("clear and sums", x.run(), 1);
        Check.due("cleared", x.look(1, 5), 0);
        Check.due("cleared", x.look(1, 8), 0);
        Check.due("not cleared", x.look(1, 6), 5);
        Check.due("sum", x.look(3, 100), 9 | 10 << 8 | 11 << 16 | 12 << 24);
        Check.due("sum", x.look(3, 101), 13 | 14 << 8 | 15 << 16 | 16 << 24);
        Check.due("sum", x.look(3, 103), 14 | 15 << 8 | 16 << 16 | 17 << 24);
        Check.due("sum", x.look(3, 104), 18 | 19 << 8 | 20 << 16 | 21 << 24);
        Check.assemble(x, "cells at 2 by 2 x 3 a 4 step 10 push behind\n"
                + "multiply by 2 x 2 a 4 b 50 step 7 n 6 pop before\nmultiply by 1 x 1 a 4 b 50 step 7 n 3");
        Check.due("multiply", x.run(), 1);
        Check.due("product and more", x.look(3, 50), 3 * 6 + 4 * 7 + 5 * 8 + 3 * 6);
        Check.due("product", x.look(3, 51), 3 * 7 + 4 * 8 + 5 * 9);
        Check.due("product", x.look(3, 53), 13 * 6 + 14 * 7 + 15 * 8);
        Check.due("product", x.look(3, 54), 13 * 7 + 14 * 8 + 15 * 9);
        Check.assemble(x, "combine by 1 x 3 a 4 b 60\ncombine by 1 x 3 a 7 b 60 n 1\ncombine by 1 x 2 a 4 b 61 n 2\n"
                + "narrow by 1 x 3 a 60 b 9\nnarrow by 1 x 1 a 50 b 12 n 1 push behind\n"
                + "store at 200 by 2 x 3 a 9 step 1 pop before");
        Check.due("combine", x.run(), 1);
        Check.due("both", x.look(3, 60), 16);
        Check.due("the greater", x.look(3, 61), 18);
        Check.due("the greater", x.look(3, 62), 20);
        Check.due("result", x.look(4, 9), 16);
        Check.due("rounded", x.look(4, 12), (104 + 1) / 2);
        // Row 1 is written behind row 0 over it.
        Check.due("stored", x.look(0, 200), 16);
        Check.due("stored over", x.look(0, 201), 52);
        Check.due("stored over", x.look(0, 202), 0);
        Check.due("stored", x.look(0, 203), 0);
    }

    private static void narrows() {
        int[] sums = {0, 1, -1, 2, -2, 3, -3, 127, 128, -128, -129, 255, 32767, -32768, 1 << 20,
            Integer.MAX_VALUE, Integer.MIN_VALUE, Integer.MAX_VALUE - 5, 4194303, -4194304, -4210689, 4178943};
        for (int sum : sums) {
            for (int n = 0; n < 32; n++) {
                Forge x = new Forge();
                x.memory(0, sum);
                Check.assemble(x, "sums by 1 x 1 push behind\nnarrow by 1 x 1 n " + n + " pop before");
                Check.due("run", x.run(), 1);
                int s = n % 16;
                java.math.BigInteger big = java.math.BigInteger.valueOf(sum);
                if (s > 0) {
                    big = big.add(java.math.BigInteger.ONE.shiftLeft(s - 1)).shiftRight(s);
                }
                int due = big.min(java.math.BigInteger.valueOf(127)).max(java.math.BigInteger.valueOf(-128)).intValue();
                Check.due("narrow of " + sum + " n " + n, x.look(4, 0), n >= 16 && due < 0 ? 0 : due);
            }
        }
    }

    private static void wraps() {
        Forge x = new Forge();
        x.memory(0, Integer.MAX_VALUE);
        x.memory(4, 1);
        x.memory(8, 1);
        Check.assemble(x, "sums by 1 x 1\ncells at 4 by 1 x 1\nweights at 8 by 1 x 1 push behind\n"
                + "multiply by 1 x 1 n 3 pop before");
        Check.due("run", x.run(), 1);
        Check.due("wrapped", x.look(3, 0), Integer.MIN_VALUE);
        x.memory(4092, 0x81828384);
        Check.assemble(x, "sums at 4092 by 3 x 1 a 250");
        Check.due("run", x.run(), 1);
        Check.due("the last four bytes", x.look(3, 254), 0x81828384);
        Check.assemble(x, "sums by 1 x 1 push behind\ncombine by 1 x 1 n 1 pop before");
        Check.due("run", x.run(), 1);
        Check.due("wrapped", x.look(3, 0), Integer.MIN_VALUE);
    }

    private static void cycles() {
        for (int t = 2; t <= 8; t++) {
            Forge x = ran(t, "cells by 5 x 2\nweights by 3 x 2\nclear by 7 x 2\nsums by 4 x 2 a 128\nwait\n"
                    + "multiply by 9 x 2 a 256 step 256 n 2\ncombine by 3 x 1 a 256\nnarrow by 2 x 2\nwait n 1\n"
                    + "store at 1000 by 6 x 2 a 128\nwait n 2", 1);
            int at = 0;
            int[] due = {10, 6, 14, 32, 1};
            for (int i = 0; i < due.length; i++) {
                times(x, i, 0, at, at + due[i]);
                at += due[i];
            }
            Check.due("worked by 0", x.stopped(3), at);
            int[] work = {9 + 2 * t - 2, 3, 4, 1};
            int end = 0;
            for (int i = 0; i < work.length; i++) {
                times(x, 5 + i, 1, end, end + work[i]);
                end += work[i];
            }
            Check.due("worked by 1", x.stopped(4), end);
            times(x, 9, 2, 0, 12);
            times(x, 10, 2, 12, 13);
            Check.due("worked by 2", x.stopped(5), 13);
            Check.due("the end", x.stopped(2), at);
        }
    }

    private static void tokens() {
        Forge x = ran(2, "clear by 2 x 2 push behind\nwait pop behind\nclear by 1 x 1 pop behind push behind\n"
                + "combine by 3 x 1 pop before push before push behind pop behind\n"
                + "wait n 1 push before pop before\nwait n 1 push behind\nwait n 1 push before\n"
                + "store by 1 x 2 push before\nstore by 2 x 2 pop before push before\nwait n 2 push before", 4);
        times(x, 0, 0, 0, 4);
        times(x, 7, 2, 0, 2);
        times(x, 3, 1, 4, 7);
        times(x, 1, 0, 7, 8);
        times(x, 8, 2, 7, 11);
        // Instruction 4 needs the token that 2 pushes, and 2 the one that 4 pushes.
        told(x, 4, 2, 12, 5, 3, 7, 0, 0, 0, 2);
        Check.due("2 waits", x.waits(0, 12), 2);
        Check.due("4 waits", x.waits(1, 12), 1);
        Check.due("none of unit 2 is left", x.waits(2, 12), 0);
        // A token that is there in the very cycle serves, and tokens gather.
        Forge y = ran(2, "wait push behind\nwait push behind\nclear by 1 x 2 push behind\n"
                + "wait n 1\nwait n 1\nwait n 1 pop before\nwait n 1 pop before\nwait n 1 pop before", 1);
        times(y, 2, 0, 2, 4);
        times(y, 5, 1, 2, 3);
        times(y, 6, 1, 3, 4);
        times(y, 7, 1, 4, 5);
        told(y, 1, NONE, 5, 4, 5, 0, 0, 0, 0, 0);
        Check.due("one is under way", y.waits(1, 3), 0);
    }

    private static void races() {
        // The one that is under way writes CELLS 0 to 3.
        race("clear by 2 x 2\ncombine by 1 x 1 a 3", 1, 0);
        race("clear by 2 x 2\ncombine by 1 x 1 a 4", NONE, 0);
        // A reach goes from the first to the last place, those between that aren't touched too.
        race("clear by 2 x 1\ncombine by 1 x 1 a 1", 1, 0);
        race("weights by 2 x 1 a 20\nmultiply by 2 x 2 a 9 b 9 step 16 n 4", NONE, 0);
        race("weights by 2 x 1 a 20\nmultiply by 2 x 2 a 9 b 9 step 17 n 4", 1, 0);
        race("sums by 2 x 2 a 9\nmultiply by 2 x 2 b 12 n 2", 1, 0);
        race("sums by 2 x 2 a 9\nmultiply by 2 x 2 b 13 n 2", NONE, 0);
        race("sums by 2 x 2 a 9\nnarrow by 2 x 2 a 12", 1, 0);
        race("sums by 2 x 2 a 9\nnarrow by 2 x 2 a 13", NONE, 0);
        race("narrow by 2 x 2 b 9\nstore by 1 x 1 a 12", 1, 0);
        race("narrow by 2 x 2 b 9\nstore by 1 x 1 a 13", NONE, 0);
        race("cells by 2 x 2 at 5 step 10\nstore by 1 x 1 at 16", 1, 0);
        race("cells by 2 x 2 at 5 step 10\nstore by 1 x 1 at 17", NONE, 0);
        race("sums by 2 x 2 at 5 step 10\nstore by 1 x 1 at 22", 1, 0);
        race("sums by 2 x 2 at 5 step 10\nstore by 1 x 1 at 23", NONE, 0);
        race("sums by 2 x 2 at 5 step 10\nstore by 1 x 1 at 4", NONE, 0);
        // What ends in a cycle isn't under way in it.
        race("clear by 2 x 2 push behind\ncombine by 1 x 1 pop before", NONE, 0);
        race("clear by 2 x 2\nwait n 1\nwait n 1\nwait n 1\ncombine by 1 x 1", 4, 3);
        race("clear by 2 x 2\nwait n 1\nwait n 1\nwait n 1\nwait n 1\ncombine by 1 x 1", NONE, 0);

        Forge x = new Forge();
        x.memory(0, 0x05040302);
        Check.assemble(x, "weights by 2 x 2 step 2 push behind\nwait push behind\n"
                + "wait n 1 push behind\ncombine by 1 x 1 n 2 push before push behind\n"
                + "store at 2 by 1 x 1 pop before push before\nstore at 100 by 1 x 1");
        Check.due("run", x.run(), 3);
        told(x, 3, 4, 1, 4, 2, 0, 1, 1, 2, 0);
        times(x, 0, 0, 0, 4);
        times(x, 1, 0, NONE, NONE);
        times(x, 2, 1, 0, 1);
        times(x, 3, 1, 1, 2);
        times(x, 4, 2, NONE, NONE);
        Check.due("what was under way does all", x.look(2, 3), 5);
        Check.due("the one that would have raced does nothing", x.look(0, 2), 4);
        Check.due("under", x.under(0, 3), 0);
        Check.due("under behind the end", x.under(0, 4), NONE);
        Check.due("waits of the racer ahead", x.waits(2, 0), 1);
        Check.due("waits of the racer", x.waits(2, 1), 0);
        Check.due("waits of the racer behind", x.waits(2, 1000), 0);
        Check.due("waits of one that could begin", x.waits(0, 4), 0);

        // A race of unit 0 keeps the units behind from beginning in that cycle.
        Forge y = ran(2, "wait\nsums by 1 x 1\nmultiply by 4 x 1 n 2\nwait n 2\nwait n 2", 3);
        told(y, 3, 1, 1, 1, 6, 1, 0, 0, 0, 0);
        times(y, 4, 2, NONE, NONE);
    }

    /** Which instruction races (NONE: none) and in which cycle. */
    private static void race(String text, int which, int cycle) {
        Forge x = new Forge();
        Check.due("assemble of " + text, Check.assemble(x, text), NONE);
        Check.due("run of " + text, x.run(), which == NONE ? 1 : 3);
        Check.due("racer of " + text, x.stopped(1), which);
        if (which != NONE) {
            Check.due("cycle of " + text, x.stopped(2), cycle);
        }
    }

    private static void stuck() {
        Forge x = ran(2, "wait n 2 pop before\nwait n 1 pop before pop behind\nwait\nwait push behind\n"
                + "wait pop behind", 4);
        told(x, 4, 0, 2, 2, 0, 0, 1, 0, 0, 0);
        Check.due("unit 0 at 1", x.waits(0, 1), 0);
        Check.due("unit 0 at 2", x.waits(0, 2), 2);
        Check.due("unit 1 at 0", x.waits(1, 0), 3);
        Check.due("unit 1 at 1", x.waits(1, 1), 3);
        Check.due("unit 1 at 2", x.waits(1, 2), 2);
        Check.due("unit 1 far behind", x.waits(1, Integer.MAX_VALUE), 2);
        Check.due("unit 2", x.waits(2, 7), 1);
        Check.due("under", x.under(0, 1), 3);
        Check.due("under behind", x.under(0, 2), NONE);
        Check.due("under of none", x.under(1, 0), NONE);
        Check.due("the least", ran(2, "wait push behind\nwait n 1 pop behind\nwait pop behind", 4).stopped(1), 1);
    }

    /** 470 words of one unit, the last of which ends last of all; and then one that is stuck. */
    private static void longest() {
        Forge x = new Forge();
        for (int i = 0; i < 470; i++) {
            x.word(i, 4L | 63L << 20 | 2L << 26 | (i == 469 ? 0x80 : 0));
        }
        Check.due("run", x.run(), 1);
        told(x, 1, NONE, 470 * 504, 470 * 504, 0, 0, 1, 0, 0, 0);
        times(x, 469, 0, 469 * 504, 470 * 504);
        Check.due("under", x.under(0, 470 * 504 - 1), 469);
        x.word(469, 9L | 1L << 59 | 1L << 4);
        Check.due("run", x.run(), 4);
        told(x, 4, 469, 469 * 504, 469 * 504, 0, 0, 0, 0, 0, 0);
    }

    /** 600 words, the last of which is stuck when all others have ended, or begins then. */
    private static void fullProgram() {
        Forge x = Check.fullProgram();
        x.word(599, 9L | 1L << 59 | 1L << 4);
        Check.due("run", x.run(), 4);
        Check.due("the last one is stuck", x.stopped(1), 599);
        int stuck = x.stopped(2);
        x.word(598, 9L | 0x80);
        Check.due("run", x.run(), 1);
        Check.due("the last one ends last", x.stopped(2), x.instruction(599, 2));
        Check.holds("some cycles on", x.stopped(2) >= stuck && x.instruction(599, 1) >= x.instruction(598, 2));
    }

    private static void laterChanges() {
        Forge x = ran(2, "clear by 3 x 1\nwait n 1 push behind\nwait n 2 pop before", 1);
        x.cut(0);
        x.word(0, 9L | 2L << 59);
        Check.due("unit of 0 then", x.instruction(0, 0), 0);
        times(x, 2, 2, 1, 2);
        Check.due("under then", x.under(0, 2), 0);
        Check.due("waits then", x.waits(2, 0), 1);
        Check.due("run", x.run(), 1);
        Check.due("unit of 0 now", x.instruction(0, 0), 2);
        Check.refuses("instruction 1 now", INDEX, () -> x.instruction(1, 0));
        x.word(0, 0);
        Check.due("run", x.run(), 2);
        told(x, 2, 0, 0, 0, 0, 0, 0, 0, 0, 0);
        x.cut(0);
        Check.due("run", x.run(), 1);
        told(x, 1, NONE, 0, 0, 0, 0, 0, 0, 0, 0);
    }
}
