/** What all tests of the project use: they count what isn't as due and end with exit code 1 if there was such. */
final class Check {
    /** A call that may throw. */
    interface Act {
        void go();
    }

    static final int[] SIZES = {4096, 512, 512, 256, 256};

    private static int wrong = 0;
    private static int asked = 0;
    private static int sentences = 0;
    private static int askedAhead = 0;
    private static String sentence = "";

    private Check() {
    }

    /** The sentence of the document that the answers from here on are compared with. */
    static void sentence(String quoted) {
        endSentence();
        sentence = "[" + quoted + "] ";
        sentences++;
        askedAhead = asked;
    }

    private static void endSentence() {
        if (sentences > 0 && asked == askedAhead) {
            fail("nothing was asked for");
        }
    }

    static void due(String what, long got, long want) {
        asked++;
        if (got != want) {
            fail(what + " answered " + got + ", due is " + want);
        }
    }

    static void due(String what, String got, String want) {
        asked++;
        if (!got.equals(want)) {
            int same = 0;
            while (same < got.length() && same < want.length() && got.charAt(same) == want.charAt(same)) {
                same++;
            }
            fail(what + " answered\n.." + part(got, same) + "\ndue is\n.." + part(want, same));
        }
    }

    private static String part(String whole, int at) {
        return whole.substring(Math.max(0, at - 100), Math.min(whole.length(), at + 200));
    }

    static void holds(String what, boolean so) {
        asked++;
        if (!so) {
            fail(what + " doesn't hold");
        }
    }

    /** The call throws exactly this class. */
    static void refuses(String what, Class<? extends RuntimeException> due, Act act) {
        asked++;
        try {
            act.go();
        } catch (RuntimeException e) {
            if (e.getClass() != due) {
                fail(what + " throws " + e.getClass().getSimpleName() + ", due is " + due.getSimpleName());
            }
            return;
        }
        fail(what + " throws nothing, due is " + due.getSimpleName());
    }

    /** The call throws exactly this class and leaves all as it was. */
    static void refusesAndKeeps(String what, Forge x, Class<? extends RuntimeException> due, Act act) {
        int before = x.changes();
        String all = all(x);
        refuses(what, due, act);
        due("all behind " + what, all(x), all);
        x.keep(before);
    }

    static void fail(String what) {
        wrong++;
        if (wrong <= 40) {
            System.out.println("WRONG: " + sentence + what);
        }
    }

    static void finish() {
        endSentence();
        System.out.println((sentences > 0 ? sentences + " sentences, " : "") + asked + " answers asked for, " + wrong
                + " wrong");
        if (wrong != 0 || asked == 0) {
            System.exit(1);
        }
    }

    /** Puts a whole text, in place of the one that was there. */
    static void write(Forge x, String text) {
        x.end(0);
        append(x, text);
    }

    static void append(Forge x, String text) {
        for (int k = 0; k < text.length(); k += 4) {
            int four = 0;
            for (int j = 0; j < 4 && k + j < text.length(); j++) {
                four |= text.charAt(k + j) << 8 * j;
            }
            x.put(four);
        }
    }

    static int assemble(Forge x, String text) {
        write(x, text);
        return x.assemble();
    }

    static int network(Forge x, String text) {
        write(x, text);
        return x.network();
    }

    static String listing(Forge x, int i) {
        StringBuilder line = new StringBuilder();
        int sign = x.listing(i, 0);
        while (sign != TensorForge.NONE) {
            line.append((char) sign);
            sign = x.listing(i, line.length());
        }
        return line.toString();
    }

    static String program(Forge x) {
        StringBuilder all = new StringBuilder();
        int length = x.length();
        for (int i = 0; i < length; i++) {
            all.append(listing(x, i));
        }
        return all.toString();
    }

    static String networkLine(Forge x, int row) {
        StringBuilder line = new StringBuilder();
        int sign = x.networkSign(row, 0);
        while (sign != TensorForge.NONE) {
            line.append((char) sign);
            sign = x.networkSign(row, line.length());
        }
        return line.toString();
    }

    static int tensors(Forge x) {
        for (int k = 0; k < 20; k++) {
            try {
                x.form(k, 0);
            } catch (IndexOutOfBoundsException e) {
                return k;
            }
        }
        return 20;
    }

    static String network(Forge x) {
        StringBuilder all = new StringBuilder();
        int tensors = tensors(x);
        for (int k = 0; k < tensors; k++) {
            all.append(networkLine(x, k));
        }
        return all.toString();
    }

    /** One with a program of 600 words, which takes more calls than there are if each is told by word(). */
    static Forge fullProgram() {
        Forge x = new Forge();
        x.input(60, 2, 1);
        x.pool(0, 22, 1);
        due("compile", x.compile(), 595);
        for (int i = 595; i < 600; i++) {
            x.word(i, 9L | 2L << 59);
        }
        return x;
    }

    static void looks(Forge x, int what, StringBuilder told) {
        for (int k = 0; k < SIZES[what]; k++) {
            told.append(x.look(what, k)).append(' ');
        }
        told.append('\n');
    }

    static String words(Forge x) {
        StringBuilder told = new StringBuilder();
        int length = x.length();
        for (int i = 0; i < length; i++) {
            told.append(x.wordOf(i)).append(' ');
        }
        return told.append('\n').toString();
    }

    static String networkAndPlaces(Forge x) {
        StringBuilder told = new StringBuilder(network(x));
        for (int k = 0; k < tensors(x); k++) {
            told.append(x.form(k, 3)).append(' ');
        }
        return told.append('\n').toString();
    }

    /** What is told of the latest run. */
    static String latestRun(Forge x) {
        StringBuilder told = new StringBuilder();
        for (int what = 0; what < 10; what++) {
            told.append(x.stopped(what)).append(' ');
        }
        if (x.stopped(0) == 0 || x.stopped(0) == 2) {
            return told.append('\n').toString();
        }
        for (int i = 0; i < 600; i++) {
            try {
                told.append(x.instruction(i, 0)).append(':').append(x.instruction(i, 1)).append('-')
                        .append(x.instruction(i, 2)).append(' ');
            } catch (IndexOutOfBoundsException e) {
                break;
            }
        }
        for (int unit = 0; unit < 3; unit++) {
            for (int cycle = 0; cycle < 5; cycle++) {
                told.append(x.under(unit, cycle)).append('/').append(x.waits(unit, cycle)).append(' ');
            }
        }
        return told.append('\n').toString();
    }

    /** What the text is, as far as it can be seen: what becomes of it. */
    static String text(Forge x) {
        Forge twin = x.twin();
        StringBuilder told = new StringBuilder();
        told.append(twin.put(0)).append(' ').append(twin.assemble()).append('\n').append(words(twin));
        return told.append(twin.network()).append('\n').append(network(twin)).toString();
    }

    /** All that calls tell of an object: to see whether a call that throws changed something. */
    static String all(Forge x) {
        StringBuilder told = new StringBuilder();
        for (int what = 0; what < 5; what++) {
            looks(x, what, told);
        }
        told.append(words(x)).append(networkAndPlaces(x)).append(latestRun(x)).append(text(x));
        // A side shows in what is illegal: CLEAR CELLS of as many columns.
        for (int columns = 1; columns < 10; columns++) {
            told.append(x.illegal(3L | 1L << 20 | (long) columns << 26) ? '-' : '+');
        }
        return told.toString();
    }
}
