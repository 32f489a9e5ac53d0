/** What all tests of the project use: they count what isn't as due and end with exit code 1 if there was such. */
final class Check {
    /** A call that may throw. */
    interface Call {
        long answer();
    }

    /** A call without an answer that may throw. */
    interface Act {
        void go();
    }

    private static int wrong = 0;
    private static int asked = 0;

    private Check() {
    }

    static void due(String what, long got, long want) {
        asked++;
        if (got != want) {
            fail(what + " answered " + got + ", due is " + want);
        }
    }

    static void due(String what, String got, String want) {
        asked++;
        if (!got.equals(want)) {
            int same = 0;
            while (same < got.length() && same < want.length() && got.charAt(same) == want.charAt(same)) {
                same++;
            }
            fail(what + " answered\n.." + part(got, same) + "\ndue is\n.." + part(want, same));
        }
    }

    private static String part(String whole, int at) {
        return whole.substring(Math.max(0, at - 100), Math.min(whole.length(), at + 200));
    }

    static void holds(String what, boolean so) {
        asked++;
        if (!so) {
            fail(what + " doesn't hold");
        }
    }

    /** The call throws exactly this class. */
    static void refuses(String what, Class<? extends RuntimeException> due, Act act) {
        asked++;
        try {
            act.go();
        } catch (RuntimeException e) {
            if (e.getClass() != due) {
                fail(what + " throws " + e.getClass().getSimpleName() + ", due is " + due.getSimpleName());
            }
            return;
        }
        fail(what + " throws nothing, due is " + due.getSimpleName());
    }

    static void fail(String what) {
        wrong++;
        if (wrong <= 40) {
            System.out.println("WRONG: " + what);
        }
    }

    static void finish() {
        System.out.println(asked + " answers asked for, " + wrong + " wrong");
        if (wrong != 0 || asked == 0) {
            System.exit(1);
        }
    }

    /** Puts a whole text, in place of the one that was there. */
    static void write(TensorForge x, String text) {
        x.end(0);
        for (int k = 0; k < text.length(); k += 4) {
            int four = 0;
            for (int j = 0; j < 4 && k + j < text.length(); j++) {
                four |= text.charAt(k + j) << 8 * j;
            }
            x.put(four);
        }
    }

    static int assemble(TensorForge x, String text) {
        write(x, text);
        return x.assemble();
    }

    static int network(TensorForge x, String text) {
        write(x, text);
        return x.network();
    }

    static String listing(TensorForge x, int i) {
        StringBuilder line = new StringBuilder();
        for (int k = 0; x.listing(i, k) != TensorForge.NONE; k++) {
            line.append((char) x.listing(i, k));
        }
        return line.toString();
    }

    static String program(TensorForge x) {
        StringBuilder all = new StringBuilder();
        for (int i = 0; i < x.length(); i++) {
            all.append(listing(x, i));
        }
        return all.toString();
    }

    static String networkLine(TensorForge x, int row) {
        StringBuilder line = new StringBuilder();
        for (int k = 0; x.networkSign(row, k) != TensorForge.NONE; k++) {
            line.append((char) x.networkSign(row, k));
        }
        return line.toString();
    }

    static int tensors(TensorForge x) {
        for (int k = 0; k < 20; k++) {
            try {
                x.form(k, 0);
            } catch (IndexOutOfBoundsException e) {
                return k;
            }
        }
        return 20;
    }

    static String network(TensorForge x) {
        StringBuilder all = new StringBuilder();
        int tensors = tensors(x);
        for (int k = 0; k < tensors; k++) {
            all.append(networkLine(x, k));
        }
        return all.toString();
    }

    static final int[] SIZES = {4096, 512, 512, 256, 256};

    /** All that calls tell of an object: to see whether a call that throws changed something. */
    static String all(TensorForge x) {
        StringBuilder told = new StringBuilder();
        for (int what = 0; what < 5; what++) {
            for (int k = 0; k < SIZES[what]; k++) {
                told.append(x.look(what, k)).append(' ');
            }
        }
        told.append('\n').append(program(x)).append(network(x));
        for (int k = 0; k < tensors(x); k++) {
            told.append(x.form(k, 3)).append(' ');
        }
        for (int what = 0; what < 10; what++) {
            told.append(x.stopped(what)).append(' ');
        }
        told.append(x.put(0));
        for (int i = 0; i < 600; i++) {
            try {
                told.append(x.instruction(i, 0)).append(':').append(x.instruction(i, 1)).append('-')
                        .append(x.instruction(i, 2)).append(' ');
            } catch (IllegalStateException | IndexOutOfBoundsException e) {
                break;
            }
        }
        // A side shows in what is illegal: CLEAR CELLS of as many columns.
        for (int columns = 1; columns < 10; columns++) {
            told.append(x.illegal(3L | 1L << 20 | (long) columns << 26) ? '-' : '+');
        }
        return told.toString();
    }

    /** The call throws exactly this class and leaves all as it was. */
    static void refusesAndKeeps(String what, TensorForge x, Class<? extends RuntimeException> due, Act act) {
        String before = all(x);
        refuses(what, due, act);
        due("all behind " + what, all(x), before);
    }
}
