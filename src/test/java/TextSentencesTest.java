/** Sentences of the document's terms, 2 (programs as texts), and promises 11 to 14. */
public final class TextSentencesTest {
    private static final Class<IllegalArgumentException> ARGUMENT = IllegalArgumentException.class;
    private static final Class<IndexOutOfBoundsException> INDEX = IndexOutOfBoundsException.class;
    private static final Class<UnsupportedOperationException> UNSUPPORTED = UnsupportedOperationException.class;
    private static final int NONE = TensorForge.NONE;
    private static final int MAX = Integer.MAX_VALUE;
    private static final int MIN = Integer.MIN_VALUE;
    private static final String[] KINDS =
            {"cells", "weights", "clear", "sums", "multiply", "combine", "narrow", "store", "wait"};
    private static final String[] PARTS = {"at 1", "by 2 x 3", "a 4", "b 5", "step 6", "n 7", "pop before", "pop behind",
        "push before", "push behind"};

    public static void main(String[] args) {
        signs();
        linesAndComments();
        kinds();
        anyOrder();
        threeTokensBehindBy();
        popsAndPushes();
        eachOnce();
        notTold();
        digits();
        fit();
        tokens();
        faultLine();
        manyInstructions();
        illegalIsFine();
        listingKind();
        listingOrder();
        listingNumbers();
        putFour();
        putRefusesSigns();
        putRefusesMore();
        endKeeps();
        endRefuses();
        assembleMakes();
        assembleFault();
        listingSigns();
        listingRefuses();
        Check.finish();
    }

    private static void fine(String text, String... words) {
        Forge x = new Forge();
        x.word(0, 77);
        Check.due("assemble of " + text, Check.assemble(x, text), NONE);
        Check.due("words of " + text, x.length(), words.length);
        for (int i = 0; i < words.length && i < x.length(); i++) {
            Check.due("word " + i + " of " + text, x.wordOf(i), Word.of(words[i]));
        }
    }

    private static void fault(String text, int line) {
        Forge x = new Forge();
        x.word(0, 77);
        x.word(1, 78);
        Check.due("assemble of " + text, Check.assemble(x, text), line);
        Check.due("the program stays", Check.words(x), "77 78 \n");
    }

    private static void signs() {
        Check.sentence("PROGRAMS AS TEXTS, at most 1500 signs, 32 .. 126 and line ends (10)");
        Forge x = new Forge();
        Check.append(x, "#" + "~".repeat(1494) + "\nwait");
        Check.due("signs", x.put(0), 1500);
        Check.due("assemble of 1500 signs", x.assemble(), NONE);
        Check.due("its word", Check.words(x), "9 \n");
        Check.refuses("one more", UNSUPPORTED, () -> x.put(' '));
        for (String last : new String[] {"wait n 1", "wait pop before", "wait n 1 ", "wait #", "wait n 1\n"}) {
            Forge y = new Forge();
            Check.append(y, "\n".repeat(1500 - last.length()) + last);
            Check.due("signs", y.put(0), 1500);
            Check.due("assemble", y.assemble(), NONE);
            Check.due("its word", y.wordOf(0), Word.of(last.replace(" #", "").trim()));
        }
        StringBuilder all = new StringBuilder("wait #");
        for (char sign = 32; sign < 127; sign++) {
            all.append(sign);
        }
        fine(all + "\nwait", "wait", "wait");
    }

    private static void linesAndComments() {
        Check.sentence("an instruction a line (lines of blanks alone are passed over, and what is behind a #)");
        fine("");
        fine(" ");
        fine("\n");
        fine("\n\n  \n \n");
        fine("#");
        fine("#wait");
        fine("wait", "wait");
        fine("wait\n", "wait");
        fine("\nwait", "wait");
        fine("  wait  ", "wait");
        fine("\n\nwait\n\n\nwait n 1\n\n", "wait", "wait n 1");
        fine("wait# n 1", "wait");
        fine("wait n 1#2", "wait n 1");
        fine("wait # ## ? !\nwait", "wait", "wait");
        fine("# wait\nwait n 2\n #\n  # wait\n", "wait n 2");
        fault("wait wait", 0);
        fault("wait n\n1", 0);
        fault("wait n # 1", 0);
    }

    private static void kinds() {
        Check.sentence("WORDS of letters, of the kinds 1 .. 9 in this order");
        for (int k = 0; k < 9; k++) {
            Forge x = new Forge();
            Check.due(KINDS[k], Check.assemble(x, KINDS[k]), NONE);
            Check.due("kind of " + KINDS[k], x.wordOf(0), k + 1);
            fault(KINDS[k] + "s", 0);
            fault(KINDS[k].substring(1), 0);
            fault(KINDS[k].substring(0, KINDS[k].length() - 1), 0);
            fault(KINDS[k].toUpperCase(), 0);
        }
        fault("?", 0);
        fault("9", 0);
        fault("load", 0);
        fault("n 1 wait", 0);
        fault("push behind", 0);
    }

    private static void anyOrder() {
        Check.sentence("behind it, in any order, none or some of: at, by, a, b, step, n, pop .., push ..");
        for (String part : PARTS) {
            fine("wait " + part, "wait " + part);
        }
        for (int first = 0; first < PARTS.length; first++) {
            StringBuilder text = new StringBuilder("cells");
            for (int k = 0; k < PARTS.length; k++) {
                text.append(' ').append(PARTS[(first + 3 * k) % PARTS.length]);
            }
            fine(text.toString(), "cells at 1 by 2 x 3 a 4 b 5 step 6 n 7 pop before pop behind push before push behind");
        }
    }

    private static void threeTokensBehindBy() {
        Check.sentence("by ROWS x COLUMNS (three tokens behind by: number, x, number)");
        fine("wait by 1 x 2", "wait by 1 x 2");
        fine("wait by1x2", "wait by 1 x 2");
        fine("wait by 1x 2", "wait by 1 x 2");
        for (String wrong : new String[] {"by", "by 1", "by 1 x", "by x 2", "by 1 2", "by 1 xx 2", "by 1 x 2 x 3", "by 1 x x 2",
            "by 1 * 2", "by 1 X 2", "by 1 x n 2", "by 1 n 2", "by x", "x 2", "1 x 2", "by 1 x 2 2"}) {
            fault("wait " + wrong, 0);
        }
    }

    private static void popsAndPushes() {
        Check.sentence("and pop before, pop behind, push before, push behind");
        fine("wait pop before pop behind push before push behind", "wait pop before pop behind push before push behind");
        fine("wait push behind push before pop behind pop before", "wait pop before pop behind push before push behind");
        for (String wrong : new String[] {"pop", "push", "before", "behind", "pop pop before", "pop before behind", "pop 1",
            "popbefore", "push n 1", "pop push", "pop befor", "push behinds"}) {
            fault("wait " + wrong, 0);
        }
    }

    private static void eachOnce() {
        Check.sentence("each at most once");
        for (int k = 0; k < PARTS.length; k++) {
            fault("wait " + PARTS[k] + " " + PARTS[k], 0);
            fault("wait\nwait " + PARTS[k] + " " + PARTS[(k + 1) % PARTS.length] + " " + PARTS[k], 1);
            // In another line it is told for the first time.
            fine("wait " + PARTS[k] + "\nwait " + PARTS[k], "wait " + PARTS[k], "wait " + PARTS[k]);
        }
        fault("wait at 0 at 0", 0);
        fault("wait by 0 x 0 by 0 x 0", 0);
        fault("wait n 0 n 1", 0);
    }

    private static void notTold() {
        Check.sentence("what isn't told is 0");
        for (int k = 0; k < 9; k++) {
            fine("narrow at 4095 by 63 x 31 a 511 b 511 step 1023 n 31 pop before pop behind push before push behind\n"
                    + KINDS[k], "narrow at 4095 by 63 x 31 a 511 b 511 step 1023 n 31 pop before pop behind push before push"
                    + " behind", KINDS[k]);
        }
    }

    private static void digits() {
        Check.sentence("Numbers have one to four digits");
        for (String name : new String[] {"at ", "a ", "b ", "step ", "n "}) {
            for (String number : new String[] {"7", "07", "007", "0007"}) {
                fine("wait " + name + number, "wait " + name + "7");
            }
            for (String number : new String[] {"00007", "000007", "10000", "99999", "4294967303", "18446744073709551623"}) {
                fault("wait " + name + number, 0);
            }
            fine("wait " + name + "0000", "wait");
            fault("wait " + name, 0);
            fault("wait " + name + "-7", 0);
            fault("wait " + name + "+7", 0);
            fault("wait " + name + "7.", 0);
            fault("wait " + name + "seven", 0);
        }
        fine("wait by 0001 x 0002", "wait by 1 x 2");
        fault("wait by 00001 x 2", 0);
        fault("wait by 1 x 00002", 0);
    }

    private static void fit() {
        Check.sentence("and fit their fields (address 4095, rows 63, columns 31, a and b 511, stride 1023, n 31)");
        String[] names = {"at ", "a ", "b ", "step ", "n "};
        int[] most = {4095, 511, 511, 1023, 31};
        for (int k = 0; k < names.length; k++) {
            fine("wait " + names[k] + most[k], "wait " + names[k] + most[k]);
            fine("wait " + names[k] + "0", "wait");
            fault("wait " + names[k] + (most[k] + 1), 0);
            fault("wait " + names[k] + 9999, 0);
        }
        fine("wait by 63 x 31", "wait by 63 x 31");
        fine("wait by 0 x 31", "wait by 0 x 31");
        fine("wait by 63 x 0", "wait by 63 x 0");
        fault("wait by 64 x 31", 0);
        fault("wait by 63 x 32", 0);
        fault("wait by 128 x 1", 0);
        fault("wait by 1 x 64", 0);
    }

    private static void tokens() {
        Check.sentence("Tokens are words (small letters, as many as there are) and numbers, with blanks between where two of a"
                + " sort follow");
        fine("wait at1by2x3a4b5step6n7pop before", "wait at 1 by 2 x 3 a 4 b 5 step 6 n 7 pop before");
        fine("   wait     n     1     pop     before   ", "wait n 1 pop before");
        fine("wait n1pop before", "wait n 1 pop before");
        fault("waitn 1", 0);
        fault("wait n 1 2", 0);
        fault("wait n 1a", 0);
        fault("waitpop before", 0);
        fault("wait pop before1", 0);
        for (String other : new String[] {"!", "\"", "$", "%", "&", "'", "(", ")", "*", "+", ",", "-", ".", "/", ":", ";",
            "<", "=", ">", "?", "@", "A", "Z", "[", "\\", "]", "^", "_", "`", "{", "|", "}", "~"}) {
            fault("wait " + other, 0);
            fault("wait" + other, 0);
            fault("wait n 1" + other + "\n", 0);
            fault(other + "wait", 0);
            fine("wait n 1 #" + other, "wait n 1");
        }
    }

    private static void faultLine() {
        Check.sentence("FAULT: the line of the first one that isn't such, from 0 on, all lines counted");
        fault("?", 0);
        fault("\n?", 1);
        fault("wait\n\n# fine\n   \nwait\n?\n?", 5);
        fault("wait\nwait n 32\nwait n 33", 1);
        fault("\n\n\n\n\n\n\n\n\n\nwait ?", 10);
        fault("\n".repeat(1499) + "?", 1499);
        fault("?" + "\n".repeat(1499), 0);
    }

    private static void manyInstructions() {
        Check.sentence("or of the 601st instruction (1500 signs hold 300 of them at most)");
        Forge x = new Forge();
        Check.due("assemble", Check.assemble(x, "sums\n".repeat(299) + "wait"), NONE);
        Check.due("length", x.length(), 300);
        Check.due("the last", x.wordOf(299), 9);
        Forge y = new Forge();
        Check.due("the last has a fault", Check.assemble(y, "sums\n".repeat(299) + "wai"), 299);
        Check.due("length", y.length(), 0);
    }

    private static void illegalIsFine() {
        Check.sentence("(Whether words are illegal is seen when they run.)");
        Forge x = new Forge();
        Check.due("assemble", Check.assemble(x, "wait\ncells\nclear by 63 x 31\nwait n 31"), NONE);
        Check.due("run", x.run(), 2);
        Check.due("the first illegal one", x.stopped(1), 1);
    }

    private static void listed(long word, String due) {
        Forge x = new Forge();
        x.word(0, word);
        Check.due("listing of " + word, Check.listing(x, 0), due);
    }

    private static void listingKind() {
        Check.sentence("LISTING: for each word a line: the kind's word (? if it is none)");
        for (int kind = 0; kind < 16; kind++) {
            listed(kind, (kind >= 1 && kind <= 9 ? KINDS[kind - 1] : "?") + "\n");
            listed(kind | 0x10, (kind >= 1 && kind <= 9 ? KINDS[kind - 1] : "?") + " pop before\n");
        }
    }

    private static void listingOrder() {
        Check.sentence("in this order what isn't 0: at, by (if rows or columns isn't 0), a, b, step, n, pop before, pop behind,"
                + " push before, push behind, .. with one blank between");
        int[] fields = {5, 8, 9, 10, 11};
        String[] names = {"at", "a", "b", "step", "n"};
        for (int k = 0; k < fields.length; k++) {
            listed(Word.with(9, fields[k], 1), "wait " + names[k] + " 1\n");
            listed(Word.with(9, fields[k], Word.most(fields[k])), "wait " + names[k] + " " + Word.most(fields[k]) + "\n");
        }
        listed(Word.of("wait by 1 x 0"), "wait by 1 x 0\n");
        listed(Word.of("wait by 0 x 1"), "wait by 0 x 1\n");
        listed(Word.of("wait by 63 x 31"), "wait by 63 x 31\n");
        for (int flags = 0; flags < 16; flags++) {
            listed(9 | flags << 4, "wait" + ((flags & 1) > 0 ? " pop before" : "") + ((flags & 2) > 0 ? " pop behind" : "")
                    + ((flags & 4) > 0 ? " push before" : "") + ((flags & 8) > 0 ? " push behind" : "") + "\n");
        }
        listed(-1L, "? at 4095 by 63 x 31 a 511 b 511 step 1023 n 31 pop before pop behind push before push behind\n");
        listed(Word.with(-1L, 0, 5),
                "multiply at 4095 by 63 x 31 a 511 b 511 step 1023 n 31 pop before pop behind push before push behind\n");
    }

    private static void listingNumbers() {
        Check.sentence("a listing's numbers are as above");
        for (int number : new int[] {1, 9, 10, 11, 99, 100, 101, 110, 999, 1000, 1001, 1010, 1100, 4000, 4095}) {
            listed(Word.with(9, 5, number), "wait at " + number + "\n");
        }
    }

    private static void putFour() {
        Check.sentence("put: Four more signs of the text, the lowest byte first (0 is left out): how many there are");
        Forge x = new Forge();
        Check.due("none", x.put(0), 0);
        Check.due("four", x.put('w' | 'a' << 8 | 'i' << 16 | 't' << 24), 4);
        Check.due("in the highest byte", x.put(' ' << 24), 5);
        Check.due("in the second and third", x.put('n' << 8 | ' ' << 16), 7);
        Check.due("in the lowest and the highest", x.put('1' | '\n' << 24), 9);
        Check.due("none", x.put(0), 9);
        Check.due("assemble", x.assemble(), NONE);
        Check.due("word", x.wordOf(0), Word.of("wait n 1"));
        Check.due("all but the lowest", x.put('w' << 8 | 'a' << 16 | 'i' << 24), 12);
        Check.due("the lowest", x.put('t'), 13);
        Check.due("assemble", x.assemble(), NONE);
        Check.due("words", x.length(), 2);
    }

    private static void putRefusesSigns() {
        Check.sentence("put: IllegalArgumentException if a byte is none of those");
        for (int byteAt = 0; byteAt < 32; byteAt += 8) {
            Forge x = new Forge();
            Check.append(x, "wait");
            for (int sign = 1; sign < 256; sign++) {
                int four = sign << byteAt;
                int withOthers = (0x61616161 & ~(255 << byteAt)) | four;
                if (sign == 10 || sign >= 32 && sign <= 126) {
                    Forge y = new Forge();
                    Check.due("put of " + sign, y.put(four), 1);
                    Check.due("put of " + sign + " with others", y.put(withOthers), 5);
                } else {
                    int before = x.changes();
                    Check.refuses("put of " + sign, ARGUMENT, () -> x.put(four));
                    Check.refuses("put of " + sign + " with others", ARGUMENT, () -> x.put(withOthers));
                    Check.due("signs", x.put(0), 4);
                    x.keep(before);
                }
            }
            Check.due("the text stays", x.assemble(), NONE);
            for (int sign : new int[] {1, 9, 11, 31, 127, 128, 255}) {
                Check.refusesAndKeeps("put of " + sign, x, ARGUMENT, () -> x.put(0x20202020 & ~(255) | sign));
            }
        }
    }

    private static void putRefusesMore() {
        Check.sentence("put: UnsupportedOperationException if there would be more than 1500");
        for (int left = 0; left <= 4; left++) {
            Forge x = new Forge();
            Check.append(x, " ".repeat(1500 - left));
            for (int more = 0; more <= 4; more++) {
                int four = more == 0 ? 0 : 0x20202020 >>> 8 * (4 - more);
                int high = more == 0 ? 0 : 0x20202020 << 8 * (4 - more);
                if (more <= left) {
                    Check.due(more + " more of " + left, x.twin().put(four), 1500 - left + more);
                    Check.due(more + " more of " + left, x.twin().put(high), 1500 - left + more);
                } else {
                    Check.refusesAndKeeps(more + " more of " + left, x, UNSUPPORTED, () -> x.put(four));
                    Check.refusesAndKeeps(more + " more of " + left, x, UNSUPPORTED, () -> x.put(high));
                }
            }
            for (int sign : new int[] {10, 32, 33, 97, 126}) {
                for (int byteAt = 0; byteAt < 32; byteAt += 8) {
                    int four = sign << byteAt;
                    if (left > 0) {
                        Check.due("sign " + sign + ", byte " + byteAt / 8, x.twin().put(four), 1501 - left);
                    } else {
                        Check.refusesAndKeeps("sign " + sign + ", byte " + byteAt / 8, x, UNSUPPORTED, () -> x.put(four));
                    }
                }
            }
            int apart = '!' | 'a' << 16;
            if (left == 2) {
                Check.due("two with nothing between", x.twin().put(apart), 1500);
            }
            if (left == 1) {
                Check.refusesAndKeeps("two with nothing between", x, UNSUPPORTED, () -> x.put(apart));
            }
        }
    }

    private static void endKeeps() {
        Check.sentence("end: The text has its first n signs");
        String text = "wait n 1\nwait n 2";
        for (int n = 0; n <= text.length(); n++) {
            Forge x = new Forge();
            Check.append(x, text);
            x.end(n);
            Check.due("signs", x.put(0), n);
            int due = n == 0 ? NONE : n < 4 ? 0 : n == 4 || n == 5 ? NONE : n == 6 || n == 7 ? 0 : n < 10 ? NONE
                    : n < 13 ? 1 : n < 15 ? NONE : n < 17 ? 1 : NONE;
            Check.due("assemble of " + text.substring(0, n), x.assemble(), due);
        }
        // What was behind its end isn't read.
        String[][] cuts = {{"wait n 12", "8", "wait n 1"}, {"waits", "4", "wait"}, {"wait n 1 n 2", "8", "wait n 1"},
            {"wait #", "5", "wait"}, {"wait n 1#", "8", "wait n 1"}, {"wait pop beforex", "15", "wait pop before"},
            {"wait n 3\n?", "8", "wait n 3"}, {"wait n 3\n?", "9", "wait n 3"}};
        for (String[] row : cuts) {
            Forge x = new Forge();
            Check.append(x, row[0]);
            x.end(Integer.parseInt(row[1]));
            Check.due("assemble of " + row[2], x.assemble(), NONE);
            Check.due("words of " + row[2], Check.words(x), Word.of(row[2]) + " \n");
        }
        Forge x = new Forge();
        Check.append(x, "wait ??");
        x.end(5);
        Check.append(x, "n 2");
        Check.due("more signs behind", x.assemble(), NONE);
        Check.due("word", x.wordOf(0), Word.of("wait n 2"));
    }

    private static void endRefuses() {
        Check.sentence("end: IllegalArgumentException if n is below 0 or above how many there are");
        Forge x = new Forge();
        Check.refusesAndKeeps("end(1) of none", x, ARGUMENT, () -> x.end(1));
        x.end(0);
        Check.append(x, "wait ?");
        for (int n : new int[] {-1, 7, 8, 1500, MIN, MAX}) {
            Check.refusesAndKeeps("end(" + n + ")", x, ARGUMENT, () -> x.end(n));
        }
        x.end(6);
        Check.due("all stay", x.put(0), 6);
        x.end(4);
        Check.refusesAndKeeps("end(5) of four", x, ARGUMENT, () -> x.end(5));
        Forge y = new Forge();
        Check.append(y, " ".repeat(1500));
        Check.refuses("end(1501)", ARGUMENT, () -> y.end(1501));
        y.end(1500);
        Check.due("1500 stay", y.put(0), 1500);
    }

    private static void assembleMakes() {
        Check.sentence("assemble: The text becomes the program: NONE");
        Forge x = new Forge();
        for (int i = 0; i < 5; i++) {
            x.word(i, 77);
        }
        Check.due("a shorter one", Check.assemble(x, "wait n 1\nwait n 2"), NONE);
        Check.due("its listing", Check.program(x), "wait n 1\nwait n 2\n");
        Check.refuses("the third word is gone", INDEX, () -> x.wordOf(2));
        Check.due("an empty one", Check.assemble(x, ""), NONE);
        Check.due("length", x.length(), 0);
        Check.due("the same again", Check.assemble(x, "wait n 1\nwait n 2"), NONE);
        String listing = Check.program(x);
        Check.due("its listing as a text", Check.assemble(x, listing), NONE);
        Check.due("its listing again", Check.program(x), listing);
    }

    private static void assembleFault() {
        Check.sentence("assemble: or its fault (the program stays)");
        Forge x = new Forge();
        Check.due("assemble", Check.assemble(x, "wait n 1\nwait n 2\nwait push behind"), NONE);
        x.run();
        for (String text : new String[] {"?", "store\n?", "store\nstore\nstore\nstore\nstore\n?", "\n\n\n?"}) {
            Check.write(x, text);
            String before = Check.all(x);
            Check.due("assemble of " + text, x.assemble(), text.split("\n", -1).length - 1);
            Check.due("all behind it", Check.all(x), before);
        }
        // So does one that the compiler made.
        x.pool(0, 11, 1);
        x.compile();
        Check.write(x, "store\nstore\n?");
        String before = Check.all(x);
        Check.due("assemble", x.assemble(), 2);
        Check.due("all behind it", Check.all(x), before);
    }

    private static void listingSigns() {
        Check.sentence("listing: Sign k of the listing of word i; NONE behind its line's end");
        Forge x = new Forge();
        x.word(0, 0);
        x.word(1, Word.of("wait n 1"));
        x.word(2, -1L);
        String[] due = {"?\n", "wait n 1\n",
            "? at 4095 by 63 x 31 a 511 b 511 step 1023 n 31 pop before pop behind push before push behind\n"};
        for (int i = 0; i < 3; i++) {
            for (int k = 0; k < due[i].length(); k++) {
                Check.due("listing(" + i + ", " + k + ")", x.listing(i, k), due[i].charAt(k));
            }
            for (int k : new int[] {due[i].length(), due[i].length() + 1, 127, 128, 200, 1500, MAX}) {
                Check.due("listing(" + i + ", " + k + ")", x.listing(i, k), NONE);
            }
        }
    }

    private static void listingRefuses() {
        Check.sentence("listing: IndexOutOfBoundsException if there is no such word, or k is below 0");
        Forge x = new Forge();
        Check.refuses("of an empty program", INDEX, () -> x.listing(0, 0));
        x.word(0, 9);
        for (int i : new int[] {-1, 1, 600, MIN, MAX}) {
            Check.refusesAndKeeps("listing(" + i + ", 0)", x, INDEX, () -> x.listing(i, 0));
            Check.refuses("listing(" + i + ", -1)", INDEX, () -> x.listing(i, -1));
        }
        for (int k : new int[] {-1, -2, MIN}) {
            Check.refusesAndKeeps("listing(0, " + k + ")", x, INDEX, () -> x.listing(0, k));
        }
        x.cut(0);
        Check.refuses("one that was cut", INDEX, () -> x.listing(0, 0));
        Forge full = Check.fullProgram();
        Check.due("the 600th", full.listing(599, 0), 'w');
        Check.refuses("the 601st", INDEX, () -> full.listing(600, 0));
    }
}
