import java.util.List;

/** Words of instructions as tests write them, in the way of a listing; it doesn't look whether they are right. */
final class Word {
    private static final List<String> KINDS =
            List.of("?", "cells", "weights", "clear", "sums", "multiply", "combine", "narrow", "store", "wait");
    static final int[] BITS = {4, 1, 1, 1, 1, 12, 6, 5, 9, 9, 10, 5};

    private Word() {
    }

    /** Where a field begins. */
    static int lowest(int which) {
        int bit = 0;
        for (int k = 0; k < which; k++) {
            bit += BITS[k];
        }
        return bit;
    }

    static int most(int which) {
        return (1 << BITS[which]) - 1;
    }

    static long with(long word, int which, int value) {
        long mask = (long) most(which) << lowest(which);
        return word & ~mask | (long) value << lowest(which) & mask;
    }

    static long of(String text) {
        String[] tokens = text.split(" ");
        long word = KINDS.indexOf(tokens[0]);
        for (int k = 1; k < tokens.length; k += 2) {
            String value = tokens[k + 1];
            switch (tokens[k]) {
                case "at":
                    word = with(word, 5, Integer.parseInt(value));
                    break;
                case "by":
                    word = with(word, 6, Integer.parseInt(value));
                    break;
                case "x":
                    word = with(word, 7, Integer.parseInt(value));
                    break;
                case "a":
                    word = with(word, 8, Integer.parseInt(value));
                    break;
                case "b":
                    word = with(word, 9, Integer.parseInt(value));
                    break;
                case "step":
                    word = with(word, 10, Integer.parseInt(value));
                    break;
                case "n":
                    word = with(word, 11, Integer.parseInt(value));
                    break;
                case "pop":
                    word = with(word, value.equals("before") ? 1 : 2, 1);
                    break;
                case "push":
                    word = with(word, value.equals("before") ? 3 : 4, 1);
                    break;
                default:
                    throw new IllegalCallerException("a test tells a word that is none: " + text);
            }
        }
        return word;
    }

    /** The words become the program. */
    static void program(Forge x, String... lines) {
        x.cut(0);
        for (int i = 0; i < lines.length; i++) {
            x.word(i, of(lines[i]));
        }
    }

    static int run(Forge x, String... lines) {
        program(x, lines);
        return x.run();
    }
}
