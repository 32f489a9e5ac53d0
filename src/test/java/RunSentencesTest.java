/** Sentences of the document's terms, 1 (units, tokens, cycles, why the machine stops) and 6, and promises 15 to 17, 28, 29. */
public final class RunSentencesTest {
    private static final Class<IllegalArgumentException> ARGUMENT = IllegalArgumentException.class;
    private static final Class<IndexOutOfBoundsException> INDEX = IndexOutOfBoundsException.class;
    private static final Class<IllegalStateException> STATE = IllegalStateException.class;
    private static final int NONE = TensorForge.NONE;
    private static final int MAX = Integer.MAX_VALUE;
    private static final int MIN = Integer.MIN_VALUE;
    private static final int DONE = 1;
    private static final int ILLEGAL = 2;
    private static final int RACE = 3;
    private static final int STUCK = 4;

    public static void main(String[] args) {
        units();
        beforeAndBehind();
        upTo600Words();
        queues();
        noTokensAtFirst();
        cycles();
        tokenForEachPop();
        pushesFromThatCycleOn();
        nextInThatCycle();
        done();
        illegal();
        illegalWithAnotherSide();
        raceOfReaches();
        raceUnderWay();
        raceOfUnits();
        raceGoesOn();
        racePopsNothing();
        waitsNeverRace();
        stuck();
        runsAgain();
        stoppedWithoutRun();
        stoppedWhich();
        stoppedCycle();
        stoppedWorked();
        stoppedTokens();
        stoppedIllegal();
        stoppedWhat();
        instructionTimes();
        instructionState();
        instructionIndex();
        instructionWhat();
        underWay();
        underExceptions();
        waitsFor();
        waitsBehindTheEnd();
        waitsNothing();
        waitsExceptions();
        Check.finish();
    }

    private static Forge ran(int side, int why, String... lines) {
        Forge x = new Forge();
        x.side(side);
        Check.due("run of " + String.join(", ", lines), Word.run(x, lines), why);
        return x;
    }

    private static void times(Forge x, int i, int began, int ended) {
        Check.due("begin of " + i, x.instruction(i, 1), began);
        Check.due("end of " + i, x.instruction(i, 2), ended);
    }

    private static void told(Forge x, int... due) {
        for (int what = 0; what < due.length; what++) {
            Check.due("stopped(" + what + ")", x.stopped(what), due[what]);
        }
    }

    private static void units() {
        Check.sentence("UNITS: 0 does the kinds 1 to 4, 1 5 to 7, 2 8; each its WAITs");
        Forge x = ran(2, DONE, "cells by 1 x 1", "weights by 1 x 1", "clear by 1 x 1", "sums by 1 x 1 a 9",
                "multiply by 1 x 1 a 99 b 99 step 99 n 2", "combine by 1 x 1 a 99 b 99", "narrow by 1 x 1 a 99 b 99",
                "store at 99 by 1 x 1", "wait", "wait n 1", "wait n 2");
        int[] due = {0, 0, 0, 0, 1, 1, 1, 2, 0, 1, 2};
        for (int i = 0; i < due.length; i++) {
            Check.due("unit of " + i, x.instruction(i, 0), due[i]);
        }
    }

    private static void beforeAndBehind() {
        Check.sentence("Unit 0 is BEFORE 1, 1 before 2, and so BEHIND it");
        String[] pushes = {"wait push behind", "wait n 1 push before", "wait n 1 push behind", "wait n 2 push before"};
        String[] pops = {"wait n 1 pop before", "wait pop behind", "wait n 2 pop before", "wait n 1 pop behind"};
        for (int push = 0; push < 4; push++) {
            for (int pop = 0; pop < 4; pop++) {
                Forge x = ran(2, push == pop ? DONE : STUCK, pushes[push], pops[pop]);
                for (int sort = 0; sort < 4; sort++) {
                    Check.due("tokens of sort " + sort, x.stopped(6 + sort), push != pop && sort == push ? 1 : 0);
                }
            }
        }
    }

    private static void upTo600Words() {
        Check.sentence("A PROGRAM has up to 600 words");
        Forge x = Check.fullProgram();
        Check.due("run", x.run(), DONE);
        Check.due("unit of the last", x.instruction(599, 0), 2);
        Check.refuses("one more", INDEX, () -> x.instruction(600, 0));
        x.word(599, Word.of("wait n 3"));
        Check.due("run", x.run(), ILLEGAL);
        Check.due("the last one", x.stopped(1), 599);
        eachEndsInAnotherCycle();
    }

    /**
     * 600 words of which no two end in the same cycle: unit 0's come behind one that takes long, and while that is under
     * way unit 1 pushes the tokens that they pop.
     */
    private static void eachEndsInAnotherCycle() {
        Forge x = Check.fullProgram();
        x.word(0, Word.of("sums by 63 x 2"));
        int pushes = 0;
        for (int i = 1; i < 600; i++) {
            long kind = x.field(x.wordOf(i), 0);
            if (kind != 1) {
                x.word(i, Word.of(pushes < 236 ? "wait n 1 push before" : "wait"));
                pushes += pushes < 236 ? 1 : 0;
            }
        }
        Check.due("run", x.run(), DONE);
        Check.due("the end", x.stopped(2), 504 + 600 - 236 - 1);
        Check.due("unit 0", x.stopped(3), 504 + 600 - 236 - 1);
        Check.due("unit 1", x.stopped(4), 236);
        boolean[] ends = new boolean[2000];
        for (int i = 0; i < 600; i++) {
            int end = x.instruction(i, 2);
            Check.holds("the end of " + i + " is another one", !ends[end]);
            ends[end] = true;
        }
        int last = 599;
        while (x.instruction(last, 0) != 0) {
            last--;
        }
        times(x, last, 504 + 600 - 236 - 2, 504 + 600 - 236 - 1);
    }

    private static void queues() {
        Check.sentence("a unit's are its QUEUE, in order");
        Forge x = ran(2, DONE, "clear by 1 x 2", "wait n 2", "wait n 1", "clear by 1 x 1", "wait n 1", "wait n 2", "wait");
        times(x, 0, 0, 2);
        times(x, 1, 0, 1);
        times(x, 2, 0, 1);
        times(x, 3, 2, 3);
        times(x, 4, 1, 2);
        times(x, 5, 1, 2);
        times(x, 6, 3, 4);
        Forge y = ran(2, STUCK, "wait n 1 pop before", "wait n 1", "wait", "wait n 2");
        times(y, 0, NONE, NONE);
        times(y, 1, NONE, NONE);
        times(y, 2, 0, 1);
        times(y, 3, 0, 1);
    }

    private static void noTokensAtFirst() {
        Check.sentence("Between 0 and 1, and 1 and 2, there are TOKENS each way, none at first");
        for (String pop : new String[] {"wait pop behind", "wait n 1 pop before", "wait n 1 pop behind",
            "wait n 2 pop before"}) {
            told(ran(2, STUCK, pop), STUCK, 0, 0, 0, 0, 0, 0, 0, 0, 0);
        }
    }

    private static void cyclesDue(int t, String word, int due) {
        Forge x = new Forge();
        x.side(t);
        Check.due("run", Word.run(x, word), DONE);
        Check.due("T " + t + ", cycles of " + word, x.instruction(0, 2), due);
        Check.due("T " + t + ", the end of " + word, x.stopped(2), due);
    }

    private static void cycles() {
        Check.sentence("CYCLES: loads and CLEAR CELLS, STORE, COMBINE, NARROW rows times columns, LOAD SUMS four times that,"
                + " MULTIPLY ROWS + 2 T - 2, WAIT 1");
        for (int t = 2; t <= 8; t++) {
            int rows = Math.min(63, 256 / t);
            for (int[] by : new int[][] {{1, 1}, {rows, t}, {rows, 1}, {1, t}, {2, 2}}) {
                String shape = " by " + by[0] + " x " + by[1];
                for (String kind : new String[] {"cells", "weights", "clear", "combine", "narrow", "store"}) {
                    cyclesDue(t, kind + shape, by[0] * by[1]);
                }
                cyclesDue(t, "sums" + shape, 4 * by[0] * by[1]);
                cyclesDue(t, "multiply" + shape + " n 2", by[0] + 2 * t - 2);
                cyclesDue(t, "multiply" + shape + " n " + (2 * t + 1), by[0] + 2 * t - 2);
            }
            cyclesDue(t, "cells by 63 x " + t, 63 * t);
            cyclesDue(t, "wait", 1);
            cyclesDue(t, "wait n 1", 1);
            cyclesDue(t, "wait n 2", 1);
        }
    }

    private static void tokenForEachPop() {
        Check.sentence("one that does nothing BEGINS its next instruction if there is a token for each pop, which are taken");
        told(ran(2, STUCK, "wait push behind", "wait n 1 pop before pop behind"), STUCK, 1, 1, 1, 0, 0, 1, 0, 0, 0);
        told(ran(2, STUCK, "wait n 2 push before", "wait n 1 pop before pop behind"), STUCK, 1, 1, 0, 0, 1, 0, 0, 0, 1);
        told(ran(2, DONE, "wait push behind", "wait n 2 push before", "wait n 1 pop before pop behind"),
                DONE, NONE, 2, 1, 1, 1, 0, 0, 0, 0);
        // One token serves one pop.
        told(ran(2, STUCK, "wait push behind", "wait n 1 pop before", "wait n 1 pop before"),
                STUCK, 2, 2, 1, 1, 0, 0, 0, 0, 0);
        // Tokens gather.
        told(ran(2, DONE, "wait push behind", "wait push behind", "wait push behind", "wait n 1 pop before"),
                DONE, NONE, 3, 3, 1, 0, 2, 0, 0, 0);
    }

    private static void pushesFromThatCycleOn() {
        Check.sentence("it ENDS as many cycles later, and its pushes are there from that cycle on, for all units");
        Forge x = ran(2, DONE, "clear by 3 x 1 push behind", "wait n 1 pop before push behind push before",
                "wait n 2 pop before push before", "wait n 1 pop behind push before", "wait pop behind", "wait pop behind");
        times(x, 0, 0, 3);
        times(x, 1, 3, 4);
        times(x, 2, 4, 5);
        times(x, 3, 5, 6);
        times(x, 4, 4, 5);
        times(x, 5, 6, 7);
        Check.due("in the cycle ahead it isn't there", x.waits(1, 2), 1);
        Check.due("in the cycle ahead it isn't there", x.waits(0, 5), 2);
    }

    private static void nextInThatCycle() {
        Check.sentence("(and its unit may begin the next one in that cycle)");
        Forge x = ran(2, DONE, "clear by 2 x 2", "clear by 1 x 1", "wait", "sums by 1 x 1", "cells by 1 x 2");
        times(x, 0, 0, 4);
        times(x, 1, 4, 5);
        times(x, 2, 5, 6);
        times(x, 3, 6, 10);
        times(x, 4, 10, 12);
        Check.due("the end", x.stopped(2), 12);
        // It pops what it has pushed the unit to push, in the same cycle.
        Forge y = ran(2, DONE, "wait n 1 push behind", "wait n 1", "wait n 1 pop behind", "wait n 2 pop before push before");
        times(y, 2, 2, 3);
    }

    private static void done() {
        Check.sentence("The machine STOPS: 1 DONE: all have ended");
        told(ran(2, DONE), DONE, NONE, 0, 0, 0, 0, 0, 0, 0, 0);
        told(ran(2, DONE, "wait n 2"), DONE, NONE, 1, 0, 0, 1, 0, 0, 0, 0);
        told(ran(2, DONE, "clear by 9 x 1 push behind", "wait n 1 push behind push before", "wait n 2 push before"),
                DONE, NONE, 9, 9, 1, 1, 1, 1, 1, 1);
    }

    private static void illegal() {
        Check.sentence("2 ILLEGAL: ahead of the first cycle, the first word that is illegal");
        Forge x = new Forge();
        x.memory(0, 5);
        Check.due("run", Word.run(x, "cells by 1 x 1", "store at 8 by 1 x 1", "wait n 3", "clear by 0 x 1"), ILLEGAL);
        told(x, ILLEGAL, 2, 0, 0, 0, 0, 0, 0, 0, 0);
        Check.due("nothing was done", x.look(1, 0), 0);
        Check.due("the very first", Word.run(x, "?", "wait", "?"), ILLEGAL);
        told(x, ILLEGAL, 0, 0, 0, 0, 0, 0, 0, 0, 0);
        // A pop that is never served comes behind that.
        Check.due("run", Word.run(x, "wait pop behind", "wait n 1 pop before", "wait n 2 pop behind"), ILLEGAL);
        Check.due("which", x.stopped(1), 2);
    }

    private static void illegalWithAnotherSide() {
        Check.sentence("illegal if COLUMNS is above T: by the side at the run");
        Forge x = new Forge();
        x.side(3);
        Check.due("run with 3", Word.run(x, "clear by 1 x 3"), DONE);
        x.side(2);
        Check.due("run with 2", x.run(), ILLEGAL);
        x.side(8);
        Check.due("run with 8", x.run(), DONE);
    }

    /** Both orders: the one of the unit behind comes second in cycle 0; or that of the unit before in cycle 1. */
    private static void pair(String before, String behind, boolean races) {
        Forge x = ran(3, races ? RACE : DONE, before, behind);
        Check.due(before + " / " + behind, x.stopped(1), races ? 1 : NONE);
        if (races) {
            Check.due("the cycle", x.stopped(2), 0);
        }
        String pause = before.startsWith("narrow") ? "wait n 1" : "wait";
        Forge y = ran(3, races ? RACE : DONE, behind, pause, before);
        Check.due(behind + " / " + before, y.stopped(1), races ? 2 : NONE);
        if (races) {
            Check.due("the cycle", y.stopped(2), 1);
        }
    }

    /** What reaches from 100 on over some places, against one of another unit that does so wherever it is put. */
    private static void meet(String before, int beforeSize, String behind, String field, int behindSize) {
        int[] at = {100 - behindSize, 100 - behindSize + 1, 100, 100 + beforeSize / 2, 100 + beforeSize - 1, 100 + beforeSize};
        for (int k = 0; k < at.length; k++) {
            pair(before, behind + " " + field + " " + at[k], k > 0 && k < at.length - 1);
        }
    }

    private static void raceOfReaches() {
        Check.sentence("3 a RACE: .. (by REACHES: from the first to the last place in memory or a buffer that it reads or"
                + " writes; for reads and writes apart");
        // The side is 3: 2 rows of 2 columns reach over 5 places, of which the third isn't touched.
        for (String load : new String[] {"cells at 900 by 2 x 2 a 100", "clear by 2 x 2 a 100"}) {
            meet(load, 5, "multiply by 2 x 1 b 50 step 50 n 4", "a", 5);
            meet(load, 5, "multiply by 2 x 3 b 50 step 50 n 2", "a", 4);
            meet(load, 5, "multiply by 2 x 1 b 50 step 50 n 7", "a", 6);
            meet(load, 5, "combine by 2 x 2 b 50", "a", 5);
            meet(load, 5, "combine by 4 x 1 b 50 n 2", "a", 10);
        }
        meet("weights at 900 by 2 x 2 a 100", 5, "multiply by 2 x 2 a 50 b 50 n 4", "step", 5);
        meet("weights at 900 by 2 x 2 a 100", 5, "multiply by 4 x 1 a 50 b 50 n 6", "step", 7);
        meet("weights at 900 by 1 x 2 a 100", 2, "multiply by 2 x 3 a 50 b 50 n 2", "step", 3);
        for (int n = 0; n < 2; n++) {
            meet("sums at 900 by 2 x 2 a 100", 5, "multiply by 2 x 2 a 50 step 50 n " + (4 + n), "b", 5);
        }
        for (int n = 0; n < 3; n++) {
            meet("sums at 900 by 2 x 2 a 100", 5, "combine by 2 x 2 a 50 n " + n, "b", 5);
        }
        meet("sums at 900 by 3 x 1 a 100", 7, "narrow by 2 x 2 b 50", "a", 5);
        meet("narrow by 2 x 2 a 50 b 100", 5, "store at 900 by 2 x 2", "a", 5);
        meet("cells at 100 by 2 x 2 step 10", 12, "store by 2 x 2 step 7", "at", 9);
        meet("weights at 100 by 3 x 1 step 10", 21, "store by 2 x 2 step 0", "at", 2);
        meet("sums at 100 by 2 x 2 step 10", 18, "store by 3 x 2 step 1", "at", 4);
        for (int at : new int[] {2000 - 1025, 2000 - 1024, 2001, 2003, 2004}) {
            pair("sums at 2000 by 1 x 1 step 10", "store by 2 x 2 step 1023 at " + at, at >= 2000 - 1024 && at <= 2003);
        }
        meet("cells at 100 by 2 x 2", 2, "store by 2 x 1", "at", 1);
    }

    private static void raceUnderWay() {
        Check.sentence("an instruction would begin and another one is under way");
        // Under way in its last cycle, and no more in the one in which it ends.
        Forge x = ran(2, RACE, "clear by 2 x 1", "wait n 1", "combine by 1 x 1");
        told(x, RACE, 2, 1);
        ran(2, DONE, "clear by 2 x 1", "wait n 1", "wait n 1", "combine by 1 x 1");
        ran(2, DONE, "clear by 2 x 1 push behind", "combine by 1 x 1 pop before");
        ran(2, DONE, "combine by 2 x 1", "wait", "wait", "clear by 1 x 1");
        told(ran(2, RACE, "combine by 2 x 1", "wait", "clear by 1 x 1"), RACE, 2, 1);
        // One that lacks a token wouldn't begin.
        ran(2, STUCK, "clear by 2 x 1", "combine by 1 x 1 pop before");
    }

    private static void raceOfUnits() {
        Check.sentence("that writes what it touches, or touches what it writes");
        // The same places in other spaces don't race.
        ran(2, DONE, "cells at 50 by 2 x 2 a 100", "multiply by 2 x 2 a 200 b 100 step 100 n 4", "store at 100 by 2 x 2 a 100");
        ran(2, DONE, "weights at 50 by 2 x 2 a 100", "combine by 2 x 2 a 100 b 100", "store at 100 by 2 x 2 a 100");
        ran(2, DONE, "sums at 50 by 2 x 2 a 100", "combine by 2 x 2 a 100 b 200", "store at 100 by 2 x 2 a 100");
        ran(2, DONE, "clear by 2 x 2 a 100", "narrow by 2 x 2 a 100 b 200", "store at 100 by 2 x 2 a 100");
        // A third one: with unit 1 idle, unit 2 against unit 0; with both busy, unit 2 against each.
        told(ran(2, RACE, "cells by 2 x 2", "wait n 1", "store at 1 by 1 x 1"), RACE, 2, 0);
        told(ran(2, RACE, "cells by 2 x 2", "narrow by 2 x 2", "store at 90 by 1 x 1 a 1"), RACE, 2, 0);
        told(ran(2, RACE, "cells by 2 x 2", "narrow by 2 x 2 b 9", "store at 1 by 1 x 1"), RACE, 2, 0);
        ran(2, DONE, "cells by 2 x 2", "narrow by 2 x 2 b 9", "store at 2 by 1 x 1");
    }

    private static void raceGoesOn() {
        Check.sentence("with nothing more begun (those under way go on to their ends, with all that they do and push)");
        Forge x = new Forge();
        x.memory(0, 0x04030201);
        Check.due("run", Word.run(x, "weights by 2 x 2 step 2 push behind", "wait push behind", "wait n 1",
                "multiply by 1 x 1 n 2", "wait n 1", "wait n 2", "wait n 2"), RACE);
        told(x, RACE, 3, 1, 4, 1, 1, 1, 0, 0, 0);
        times(x, 0, 0, 4);
        times(x, 1, NONE, NONE);
        times(x, 2, 0, 1);
        times(x, 3, NONE, NONE);
        times(x, 4, NONE, NONE);
        times(x, 5, 0, 1);
        times(x, 6, NONE, NONE);
        for (int k = 0; k < 4; k++) {
            Check.due("weights", x.look(2, k), k + 1);
        }
        // A unit ahead of the racer has begun in that cycle.
        Forge y = ran(2, RACE, "wait", "clear by 1 x 2", "wait n 1", "combine by 1 x 1", "wait n 2", "wait n 2");
        told(y, RACE, 3, 1, 3, 1, 1, 0, 0, 0, 0);
        times(y, 1, 1, 3);
        times(y, 5, NONE, NONE);
        // The racer does nothing.
        Check.due("sums", y.look(3, 0), 0);
    }

    private static void racePopsNothing() {
        Check.sentence("its own pops aren't taken");
        told(ran(2, RACE, "wait push behind", "clear by 2 x 2", "combine by 1 x 1 pop before"),
                RACE, 2, 1, 5, 0, 0, 1, 0, 0, 0);
        told(ran(2, RACE, "wait push behind", "clear by 2 x 2", "wait n 2 push before",
                "combine by 1 x 1 pop before pop behind"), RACE, 3, 1, 5, 0, 1, 1, 0, 0, 1);
        told(ran(2, RACE, "wait n 1 push before", "narrow by 2 x 2", "wait pop behind", "sums by 1 x 1"),
                RACE, 3, 2, 1, 5, 0, 0, 0, 0, 0);
    }

    private static void waitsNeverRace() {
        Check.sentence("two that read alone race never, a WAIT neither");
        ran(2, DONE, "clear by 2 x 2", "wait n 1", "wait n 2");
        ran(2, DONE, "wait", "combine by 2 x 2", "wait n 2");
        ran(2, DONE, "wait", "wait", "wait n 1", "store by 2 x 2");
        // Reads of the same numbers of places in other buffers.
        ran(2, DONE, "cells by 2 x 2 a 100", "multiply by 2 x 2 b 100 n 4", "store at 100 by 2 x 2");
        ran(2, DONE, "weights by 2 x 2 a 100", "narrow by 2 x 2 b 100", "store at 100 by 2 x 2");
    }

    private static void stuck() {
        Check.sentence("4 STUCK: nothing is under way, and none can begin");
        told(ran(2, STUCK, "clear by 3 x 2", "wait n 1 pop before"), STUCK, 1, 6, 6, 0, 0, 0, 0, 0, 0);
        told(ran(2, STUCK, "wait", "wait n 2 pop before", "wait pop behind", "wait n 1 pop behind"),
                STUCK, 1, 1, 1, 0, 0, 0, 0, 0, 0);
        // As long as one is under way it may still push.
        told(ran(2, DONE, "clear by 3 x 2 push behind", "wait n 1 pop before"), DONE, NONE, 7, 6, 1, 0, 0, 0, 0, 0);
    }

    private static void runsAgain() {
        Check.sentence("run(): Runs the program, with memory and buffers as they are, without tokens");
        Forge x = new Forge();
        x.memory(0, 3);
        Check.due("run", Word.run(x, "cells by 1 x 1 push behind", "combine by 1 x 1 n 1 pop before",
                "narrow by 1 x 1 push behind", "store by 1 x 1 pop before push before"), DONE);
        Check.due("sum", x.look(3, 0), 3);
        Check.due("run again", x.run(), DONE);
        Check.due("sum again", x.look(3, 0), 6);
        Check.due("run once more", x.run(), DONE);
        Check.due("sum once more", x.look(3, 0), 12);
        Check.due("memory", x.look(0, 0), 12);
        Check.due("a token is left", x.stopped(9), 1);
        Check.due("but isn't there in the next run", Word.run(x, "wait n 1 pop behind"), STUCK);
        Check.due("and not told of it", x.stopped(9), 0);
        Check.due("nor what units worked", x.stopped(3) + x.stopped(4) + x.stopped(5), 0);
    }

    private static void stoppedWithoutRun() {
        Check.sentence("stopped: 0 why it stopped (0 without one)");
        Forge x = new Forge();
        Check.due("of a new one", x.stopped(0), 0);
        Word.program(x, "wait");
        x.input(3, 3, 1);
        x.pool(0, 11, 1);
        x.compile();
        x.reckon();
        Check.due("without a run", x.stopped(0), 0);
        x.run();
        Check.due("with one", x.stopped(0), DONE);
        for (int why = 1; why <= 4; why++) {
            String[][] lines = {{"wait"}, {"?"}, {"clear by 1 x 1", "combine by 1 x 1"}, {"wait pop behind"}};
            Check.due("run", Word.run(x, lines[why - 1]), why);
            Check.due("why", x.stopped(0), why);
        }
    }

    private static void stoppedWhich() {
        Check.sentence("1 the instruction that was illegal, would have raced, or (STUCK) the least one that couldn't begin"
                + " (NONE if DONE)");
        Check.due("illegal", ran(2, ILLEGAL, "wait", "?").stopped(1), 1);
        Check.due("raced", ran(2, RACE, "combine by 1 x 1", "clear by 1 x 1").stopped(1), 0);
        Check.due("stuck: unit 2's", ran(2, STUCK, "wait n 2 pop before", "wait pop behind").stopped(1), 0);
        Check.due("stuck: unit 1's", ran(2, STUCK, "wait", "wait n 1 pop before", "wait n 2 pop before", "wait pop behind")
                .stopped(1), 1);
        Check.due("stuck: unit 0's", ran(2, STUCK, "wait n 2", "wait pop behind", "wait n 1 pop before").stopped(1), 1);
        Check.due("done", ran(2, DONE, "wait").stopped(1), NONE);
        Check.due("done without any", ran(2, DONE).stopped(1), NONE);
    }

    private static void stoppedCycle() {
        Check.sentence("2 the cycle at which it stopped (a RACE: at which that one would have begun; DONE: at which the last"
                + " one ended; 0 if ILLEGAL, or without instructions)");
        Check.due("race", ran(2, RACE, "clear by 9 x 2", "wait n 1", "wait n 1", "combine by 1 x 1").stopped(2), 2);
        Check.due("done, unit 0 last", ran(2, DONE, "clear by 9 x 2", "wait n 1", "wait n 2").stopped(2), 18);
        Check.due("done, unit 1 last", ran(2, DONE, "wait", "combine by 9 x 2", "wait n 2").stopped(2), 18);
        Check.due("done, unit 2 last", ran(2, DONE, "wait", "wait n 1", "store by 9 x 2").stopped(2), 18);
        Check.due("stuck at once", ran(2, STUCK, "wait pop behind").stopped(2), 0);
        Check.due("stuck later", ran(2, STUCK, "wait pop behind", "combine by 5 x 1").stopped(2), 5);
        Check.due("illegal", ran(2, ILLEGAL, "clear by 9 x 2", "?").stopped(2), 0);
        Forge x = ran(2, DONE, "clear by 9 x 2");
        x.cut(0);
        Check.due("run without instructions", x.run(), DONE);
        Check.due("without instructions", x.stopped(2), 0);
    }

    private static void stoppedWorked() {
        Check.sentence("3 to 5 how many cycles unit 0, 1, 2 worked (those under way to their ends as well)");
        told(ran(4, DONE, "cells by 2 x 3", "sums by 1 x 2", "multiply by 5 x 1 a 99 b 99 n 8", "combine by 2 x 2 a 99 b 99",
                "store at 99 by 3 x 1", "wait n 2"), DONE, NONE, 15, 14, 15, 4);
        told(ran(2, RACE, "clear by 9 x 2", "wait n 1", "combine by 1 x 1", "store by 7 x 2"), RACE, 2, 1, 18, 1, 14);
        told(ran(2, STUCK, "clear by 9 x 2", "wait n 1", "wait n 1 pop before"), STUCK, 2, 18, 18, 1, 0);
    }

    private static void stoppedTokens() {
        Check.sentence("6 to 9 tokens left: pushed by unit 0 behind, 1 before, 1 behind, 2 before");
        told(ran(2, DONE, "wait push behind"), DONE, NONE, 1, 1, 0, 0, 1, 0, 0, 0);
        told(ran(2, DONE, "wait n 1 push before"), DONE, NONE, 1, 0, 1, 0, 0, 1, 0, 0);
        told(ran(2, DONE, "wait n 1 push behind"), DONE, NONE, 1, 0, 1, 0, 0, 0, 1, 0);
        told(ran(2, DONE, "wait n 2 push before"), DONE, NONE, 1, 0, 0, 1, 0, 0, 0, 1);
        String[] many = new String[200];
        java.util.Arrays.fill(many, "wait push behind");
        Check.due("many", ran(2, DONE, many).stopped(6), 200);
    }

    private static void stoppedIllegal() {
        Check.sentence("(3 to 9 all 0 if ILLEGAL)");
        Forge x = ran(2, DONE, "wait push behind", "wait n 1 push before push behind", "wait n 2 push before");
        told(x, DONE, NONE, 1, 1, 1, 1, 1, 1, 1, 1);
        x.word(3, 0);
        Check.due("run", x.run(), ILLEGAL);
        told(x, ILLEGAL, 3, 0, 0, 0, 0, 0, 0, 0, 0);
    }

    private static void stoppedWhat() {
        Check.sentence("stopped: IllegalArgumentException for another what");
        for (int what : new int[] {-1, 10, 11, MIN, MAX}) {
            Forge x = new Forge();
            Check.refusesAndKeeps("stopped(" + what + ") without a run", x, ARGUMENT, () -> x.stopped(what));
            Word.run(x, "wait");
            Check.refusesAndKeeps("stopped(" + what + ")", x, ARGUMENT, () -> x.stopped(what));
        }
    }

    private static void instructionTimes() {
        Check.sentence("instruction: 0 its unit, 1 the cycle at which it began, 2 ended (both NONE if it didn't begin)");
        Forge x = ran(2, STUCK, "clear by 2 x 2", "wait n 2 pop before", "wait n 1", "wait pop behind", "wait");
        int[][] due = {{0, 0, 4}, {2, NONE, NONE}, {1, 0, 1}, {0, NONE, NONE}, {0, NONE, NONE}};
        for (int i = 0; i < due.length; i++) {
            for (int what = 0; what < 3; what++) {
                Check.due("instruction(" + i + ", " + what + ")", x.instruction(i, what), due[i][what]);
            }
        }
        Forge y = ran(2, RACE, "clear by 2 x 2", "combine by 1 x 1");
        times(y, 1, NONE, NONE);
        Check.due("its unit all the same", y.instruction(1, 0), 1);
    }

    private static void instructionState() {
        Check.sentence("instruction: IllegalStateException if there was no run, or it was ILLEGAL");
        Forge x = new Forge();
        Word.program(x, "wait");
        Check.refusesAndKeeps("without a run", x, STATE, () -> x.instruction(0, 0));
        Check.refuses("without a run, no such word", STATE, () -> x.instruction(1, 0));
        Check.refuses("without a run, another what", STATE, () -> x.instruction(0, 3));
        x.run();
        Check.due("with one", x.instruction(0, 0), 0);
        Check.due("run", Word.run(x, "wait", "?"), ILLEGAL);
        Check.refusesAndKeeps("illegal", x, STATE, () -> x.instruction(0, 0));
        Check.refuses("illegal, no such word", STATE, () -> x.instruction(-1, -1));
        Word.run(x);
        Check.refuses("an empty run", INDEX, () -> x.instruction(0, 0));
    }

    private static void instructionIndex() {
        Check.sentence("instruction: IndexOutOfBoundsException if the program had no such word then");
        Forge x = ran(2, DONE, "wait", "wait n 1");
        for (int i : new int[] {-1, 2, 600, MIN, MAX}) {
            Check.refusesAndKeeps("instruction(" + i + ", 0)", x, INDEX, () -> x.instruction(i, 0));
            Check.refuses("instruction(" + i + ", 3)", INDEX, () -> x.instruction(i, 3));
        }
        x.word(2, Word.of("wait n 2"));
        Check.refuses("one that came later", INDEX, () -> x.instruction(2, 0));
        x.cut(0);
        Check.due("one that is gone since", x.instruction(1, 0), 1);
        x.word(0, Word.of("wait n 2"));
        Check.due("one that is another since", x.instruction(0, 0), 0);
    }

    private static void instructionWhat() {
        Check.sentence("instruction: IllegalArgumentException for another what");
        Forge x = ran(2, DONE, "wait", "wait n 1");
        for (int what : new int[] {-1, 3, MIN, MAX}) {
            Check.refusesAndKeeps("instruction(0, " + what + ")", x, ARGUMENT, () -> x.instruction(0, what));
        }
    }

    private static void underWay() {
        Check.sentence("an instruction is UNDER WAY from the cycle at which it began up to the one before it ends");
        Forge x = ran(2, DONE, "clear by 3 x 1 push behind", "wait", "combine by 2 x 1 pop before", "wait n 2", "wait n 1");
        int[] unit0 = {0, 0, 0, 1, NONE, NONE, NONE};
        int[] unit1 = {NONE, NONE, NONE, 2, 2, 4, NONE};
        int[] unit2 = {3, NONE, NONE, NONE, NONE, NONE, NONE};
        for (int cycle = 0; cycle < 7; cycle++) {
            Check.due("unit 0, cycle " + cycle, x.under(0, cycle), unit0[cycle]);
            Check.due("unit 1, cycle " + cycle, x.under(1, cycle), unit1[cycle]);
            Check.due("unit 2, cycle " + cycle, x.under(2, cycle), unit2[cycle]);
        }
        for (int unit = 0; unit < 3; unit++) {
            Check.due("far behind the end", x.under(unit, MAX), NONE);
        }
        Check.due("of an empty run", ran(2, DONE).under(0, 0), NONE);
        // Behind a race those under way go on.
        Forge y = ran(2, RACE, "clear by 3 x 1", "combine by 2 x 1");
        Check.due("the last cycle", y.under(0, 2), 0);
        Check.due("the end", y.under(0, 3), NONE);
        Check.due("the racer", y.under(1, 0), NONE);
    }

    private static void underExceptions() {
        Check.sentence("under: IllegalStateException if there was no run, or it was ILLEGAL; IllegalArgumentException if there"
                + " is no such unit, or cycle is below 0");
        Forge x = new Forge();
        Check.refusesAndKeeps("without a run", x, STATE, () -> x.under(0, 0));
        Check.refuses("without a run, no such unit", STATE, () -> x.under(3, 0));
        Word.run(x, "?");
        Check.refusesAndKeeps("illegal", x, STATE, () -> x.under(0, 0));
        Check.refuses("illegal, a cycle below 0", STATE, () -> x.under(0, -1));
        Word.run(x, "wait");
        for (int unit : new int[] {-1, 3, MIN, MAX}) {
            Check.refusesAndKeeps("under(" + unit + ", 0)", x, ARGUMENT, () -> x.under(unit, 0));
        }
        for (int cycle : new int[] {-1, MIN}) {
            Check.refusesAndKeeps("under(0, " + cycle + ")", x, ARGUMENT, () -> x.under(0, cycle));
        }
        Check.due("cycle 0", x.under(0, 0), 0);
        Check.due("the last unit", x.under(2, 0), NONE);
    }

    private static void waitsFor() {
        Check.sentence("waits: 1 a token of the unit before, 2 one of the unit behind, 3 both");
        Forge x = ran(2, DONE, "clear by 2 x 1 push behind", "wait pop behind", "wait n 1 pop before pop behind push before push"
                + " behind", "store by 2 x 2 push before", "wait n 2 pop before");
        int[] unit0 = {0, 0, 2, 2, 2, 0, 0};
        int[] unit1 = {3, 3, 2, 2, 0, 0, 0};
        int[] unit2 = {0, 0, 0, 0, 1, 0, 0};
        for (int cycle = 0; cycle < 7; cycle++) {
            Check.due("unit 0, cycle " + cycle, x.waits(0, cycle), unit0[cycle]);
            Check.due("unit 1, cycle " + cycle, x.waits(1, cycle), unit1[cycle]);
            Check.due("unit 2, cycle " + cycle, x.waits(2, cycle), unit2[cycle]);
        }
        Forge y = ran(2, STUCK, "wait n 2 push before", "wait n 1 pop before pop behind");
        Check.due("both", y.waits(1, 0), 3);
        Check.due("one of them is there", y.waits(1, 1), 1);
        // Tokens that were taken aren't there.
        Forge z = ran(2, STUCK, "wait push behind", "wait n 1 pop before", "wait n 1 pop before");
        int[] due = {1, 0, 1, 1};
        for (int cycle = 0; cycle < 4; cycle++) {
            Check.due("cycle " + cycle, z.waits(1, cycle), due[cycle]);
        }
        // Nor those that the very first instruction took; and the last one's push counts.
        Forge w = ran(2, STUCK, "wait n 1 pop before", "wait n 1 pop before", "wait push behind");
        for (int cycle = 0; cycle < 4; cycle++) {
            Check.due("cycle " + cycle, w.waits(1, cycle), due[cycle]);
        }
        Forge v = ran(2, STUCK, "wait pop behind", "wait pop behind", "wait n 1 push before");
        for (int cycle = 0; cycle < 4; cycle++) {
            Check.due("cycle " + cycle, v.waits(0, cycle), 2 * due[cycle]);
        }
    }

    private static void waitsBehindTheEnd() {
        Check.sentence("What a unit waits for in a cycle (also behind the run's end)");
        Forge x = ran(2, STUCK, "wait pop behind", "wait n 1 pop before pop behind", "wait n 2 pop before");
        for (int cycle : new int[] {0, 1, 100, MAX}) {
            Check.due("unit 0, cycle " + cycle, x.waits(0, cycle), 2);
            Check.due("unit 1, cycle " + cycle, x.waits(1, cycle), 3);
            Check.due("unit 2, cycle " + cycle, x.waits(2, cycle), 1);
        }
        Forge y = ran(2, RACE, "clear by 5 x 1 push behind", "sums by 1 x 1 pop behind", "wait n 1",
                "combine by 1 x 1 push before", "wait n 2", "wait n 2 pop before");
        Check.due("the race", y.stopped(2), 1);
        Check.due("unit 0 in its last cycle", y.waits(0, 4), 0);
        Check.due("unit 0 behind it", y.waits(0, 5), 2);
        Check.due("unit 2", y.waits(2, 1), 1);
        Check.due("unit 2 far behind", y.waits(2, MAX), 1);
    }

    private static void waitsNothing() {
        Check.sentence("waits: 0 if one is under way, none of its is left, or all are there");
        Forge x = ran(2, RACE, "wait push behind", "clear by 5 x 1", "wait n 1", "combine by 1 x 1 pop before",
                "wait n 1 pop behind", "wait n 2", "wait n 2");
        Check.due("one is under way", x.waits(0, 0), 0);
        Check.due("none of its is left", x.waits(0, 6), 0);
        Check.due("the racer's tokens are there", x.waits(1, 1), 0);
        Check.due("the racer's tokens are there, far behind", x.waits(1, MAX), 0);
        Check.due("one that pops nothing and hadn't begun", x.waits(2, 1), 0);
        Check.due("one that pops nothing and hadn't begun, far behind", x.waits(2, MAX), 0);
        Forge y = ran(2, DONE);
        for (int unit = 0; unit < 3; unit++) {
            Check.due("of an empty run", y.waits(unit, 0), 0);
        }
        // What a longer program left there in an earlier run doesn't count.
        Forge again = ran(2, STUCK, "wait", "wait n 1 pop before pop behind", "wait pop behind", "wait n 2 pop before");
        Check.due("unit 1 waits", again.waits(1, 0), 3);
        again.cut(1);
        Check.due("run", again.run(), DONE);
        for (int unit = 0; unit < 3; unit++) {
            Check.due("none of unit " + unit + " is left", again.waits(unit, 0), 0);
            Check.due("none of unit " + unit + " is left", again.waits(unit, 9), 0);
            Check.due("under", again.under(unit, 0), unit == 0 ? 0 : NONE);
        }
        Forge full = Check.fullProgram();
        Check.due("run", full.run(), DONE);
        for (int unit = 0; unit < 3; unit++) {
            Check.due("at first, of 600 words", full.waits(unit, 0), unit == 0 ? 0 : 1);
            Check.due("none of unit " + unit + " is left", full.waits(unit, full.stopped(2)), 0);
            Check.due("under", full.under(unit, full.stopped(2)), NONE);
        }
        // While an instruction is under way the next one's tokens don't count.
        Forge z = ran(2, STUCK, "clear by 2 x 1", "wait pop behind");
        Check.due("cycle 1", z.waits(0, 1), 0);
        Check.due("cycle 2", z.waits(0, 2), 2);
    }

    private static void waitsExceptions() {
        Check.sentence("waits: Exceptions as for under()");
        Forge x = new Forge();
        Check.refusesAndKeeps("without a run", x, STATE, () -> x.waits(0, 0));
        Check.refuses("without a run, no such unit", STATE, () -> x.waits(3, 0));
        Word.run(x, "?");
        Check.refusesAndKeeps("illegal", x, STATE, () -> x.waits(0, 0));
        Check.refuses("illegal, a cycle below 0", STATE, () -> x.waits(0, -1));
        Word.run(x, "wait");
        for (int unit : new int[] {-1, 3, MIN, MAX}) {
            Check.refusesAndKeeps("waits(" + unit + ", 0)", x, ARGUMENT, () -> x.waits(unit, 0));
        }
        for (int cycle : new int[] {-1, MIN}) {
            Check.refusesAndKeeps("waits(0, " + cycle + ")", x, ARGUMENT, () -> x.waits(0, cycle));
        }
        Check.due("cycle 0", x.waits(0, 0), 0);
        Check.due("the last unit", x.waits(2, 0), 0);
    }
}
