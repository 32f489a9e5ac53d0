import java.util.ArrayList;
import java.util.Random;

/**
 * Promises 10, 15, 16, 17, 28 and 29 against another machine: it goes cycle by cycle, keeps each place that an
 * instruction touches, and does what an instruction does when it ends.
 */
public final class ModelTest {
    private static final int NONE = TensorForge.NONE;
    private static final int[] SIZES = Check.SIZES;
    // Not the whole memory, which takes more calls to fill than an object has.
    private static final int MOST_ADDRESS = 400;
    private static final int MOST_CYCLES = 60;

    private final int side;
    private final int[][] state = new int[5][];
    private final int[] tokens = new int[4];
    private final int[] worked = new int[3];
    private final ArrayList<int[]> under = new ArrayList<>();
    private final ArrayList<int[]> waits = new ArrayList<>();
    private int[] began;
    private int[] ended;
    private int why;
    private int which;
    private int cycle;

    private ModelTest(int side) {
        this.side = side;
        for (int k = 0; k < 5; k++) {
            state[k] = new int[SIZES[k]];
        }
    }

    public static void main(String[] args) {
        Random random = new Random(1);
        illegal(random);
        int[] stops = new int[5];
        for (int turn = 0; turn < 6000; turn++) {
            stops[one(random)]++;
        }
        System.out.println("done " + stops[1] + ", illegal " + stops[2] + ", races " + stops[3] + ", stuck " + stops[4]);
        Check.holds("each way to stop was met", stops[1] > 100 && stops[2] > 100 && stops[3] > 100 && stops[4] > 100);
        Check.finish();
    }

    private static int bits(long word, int from, int many) {
        return (int) (word >>> from & (1L << many) - 1);
    }

    private static int unit(long word) {
        int kind = bits(word, 0, 4);
        return kind == 9 ? bits(word, 59, 5) : kind < 5 ? 0 : kind < 8 ? 1 : 2;
    }

    /** All places that a word touches: space, place, 1 if it writes. */
    private static ArrayList<int[]> touched(long word, int t) {
        ArrayList<int[]> all = new ArrayList<>();
        int kind = bits(word, 0, 4);
        int address = bits(word, 8, 12);
        int a = bits(word, 31, 9);
        int b = bits(word, 40, 9);
        int stride = bits(word, 49, 10);
        int n = bits(word, 59, 5);
        for (int r = 0; r < bits(word, 20, 6); r++) {
            for (int c = 0; c < bits(word, 26, 5); c++) {
                int place = r * t + c;
                if (kind == 1 || kind == 2) {
                    all.add(new int[] {0, address + r * stride + c, 0});
                    all.add(new int[] {kind, a + place, 1});
                } else if (kind == 3) {
                    all.add(new int[] {1, a + place, 1});
                } else if (kind == 4) {
                    for (int k = 0; k < 4; k++) {
                        all.add(new int[] {0, address + r * stride + 4 * c + k, 0});
                    }
                    all.add(new int[] {3, a + place, 1});
                } else if (kind == 5) {
                    for (int k = 0; k < n / 2; k++) {
                        all.add(new int[] {1, a + r * t + k, 0});
                        all.add(new int[] {2, stride + k * t + c, 0});
                    }
                    all.add(new int[] {3, b + place, 1});
                    if (n % 2 == 1) {
                        all.add(new int[] {3, b + place, 0});
                    }
                } else if (kind == 6) {
                    all.add(new int[] {1, a + place, 0});
                    all.add(new int[] {3, b + place, 1});
                    if (n > 0) {
                        all.add(new int[] {3, b + place, 0});
                    }
                } else if (kind == 7) {
                    all.add(new int[] {3, a + place, 0});
                    all.add(new int[] {4, b + place, 1});
                } else if (kind == 8) {
                    all.add(new int[] {4, a + place, 0});
                    all.add(new int[] {0, address + r * stride + c, 1});
                }
            }
        }
        return all;
    }

    private static boolean illegal(long word, int t) {
        int kind = bits(word, 0, 4);
        int rows = bits(word, 20, 6);
        int columns = bits(word, 26, 5);
        int n = bits(word, 59, 5);
        if (kind == 0 || kind > 9) {
            return true;
        }
        if (kind == 9 ? rows != 0 || columns != 0 : rows == 0 || columns == 0 || columns > t) {
            return true;
        }
        boolean hasAddress = kind == 1 || kind == 2 || kind == 4 || kind == 8;
        boolean hasA = kind != 9;
        boolean hasB = kind == 5 || kind == 6 || kind == 7;
        boolean hasStride = hasAddress || kind == 5;
        if (!hasAddress && bits(word, 8, 12) != 0 || !hasA && bits(word, 31, 9) != 0
                || !hasB && bits(word, 40, 9) != 0 || !hasStride && bits(word, 49, 10) != 0) {
            return true;
        }
        if (kind == 5 ? n / 2 == 0 || n / 2 > t : kind == 6 || kind == 9 ? n > 2 : kind != 7 && n > 0) {
            return true;
        }
        boolean before = bits(word, 4, 1) + bits(word, 6, 1) > 0;
        boolean behind = bits(word, 5, 1) + bits(word, 7, 1) > 0;
        if (unit(word) == 0 && before || unit(word) == 2 && behind) {
            return true;
        }
        for (int[] place : touched(word, t)) {
            if (place[1] >= SIZES[place[0]]) {
                return true;
            }
        }
        return false;
    }

    /** From the first to the last place of a space that is read (or written); null if there is none. */
    private static int[] reach(ArrayList<int[]> places, int space, int writes) {
        int[] reach = null;
        for (int[] place : places) {
            if (place[0] == space && place[2] == writes) {
                if (reach == null) {
                    reach = new int[] {place[1], place[1]};
                }
                reach[0] = Math.min(reach[0], place[1]);
                reach[1] = Math.max(reach[1], place[1]);
            }
        }
        return reach;
    }

    private static boolean race(long one, long two, int t) {
        for (int space = 0; space < 5; space++) {
            for (int how = 1; how < 4; how++) {
                int[] first = reach(touched(one, t), space, how & 1);
                int[] second = reach(touched(two, t), space, how >> 1);
                if (first != null && second != null && first[0] <= second[1] && second[0] <= first[1]) {
                    return true;
                }
            }
        }
        return false;
    }

    private static int cycles(long word, int t) {
        int kind = bits(word, 0, 4);
        int cells = bits(word, 20, 6) * bits(word, 26, 5);
        return kind == 9 ? 1 : kind == 5 ? bits(word, 20, 6) + 2 * t - 2 : kind == 4 ? 4 * cells : cells;
    }

    private void act(long word) {
        int kind = bits(word, 0, 4);
        int address = bits(word, 8, 12);
        int a = bits(word, 31, 9);
        int b = bits(word, 40, 9);
        int stride = bits(word, 49, 10);
        int n = bits(word, 59, 5);
        for (int r = 0; r < bits(word, 20, 6); r++) {
            for (int c = 0; c < bits(word, 26, 5); c++) {
                int p = r * side + c;
                int from = address + r * stride;
                if (kind == 1 || kind == 2) {
                    state[kind][a + p] = state[0][from + c];
                } else if (kind == 3) {
                    state[1][a + p] = 0;
                } else if (kind == 4) {
                    int sum = 0;
                    for (int k = 3; k >= 0; k--) {
                        sum = sum << 8 | state[0][from + 4 * c + k] & 255;
                    }
                    state[3][a + p] = sum;
                } else if (kind == 5) {
                    int sum = n % 2 == 1 ? state[3][b + p] : 0;
                    for (int k = 0; k < n / 2; k++) {
                        sum += state[1][a + r * side + k] * state[2][stride + k * side + c];
                    }
                    state[3][b + p] = sum;
                } else if (kind == 6) {
                    int cell = state[1][a + p];
                    int sum = state[3][b + p];
                    state[3][b + p] = n == 0 ? cell : n == 1 ? cell + sum : cell > sum ? cell : sum;
                } else if (kind == 7) {
                    state[4][b + p] = narrow(state[3][a + p], n);
                } else if (kind == 8) {
                    state[0][from + c] = state[4][a + p];
                }
            }
        }
    }

    static int narrow(int sum, int n) {
        long value = n % 16 == 0 ? sum : Math.floorDiv(sum + (1L << n % 16) / 2, 1L << n % 16);
        value = value < -128 ? -128 : value > 127 ? 127 : value;
        return n >= 16 && value < 0 ? 0 : (int) value;
    }

    private void run(long[] words) {
        began = new int[words.length];
        ended = new int[words.length];
        java.util.Arrays.fill(began, NONE);
        java.util.Arrays.fill(ended, NONE);
        which = NONE;
        for (int i = 0; i < words.length; i++) {
            if (illegal(words[i], side)) {
                why = 2;
                which = i;
                return;
            }
        }
        ArrayList<ArrayList<Integer>> queues = new ArrayList<>();
        for (int unit = 0; unit < 3; unit++) {
            queues.add(new ArrayList<>());
            for (int i = 0; i < words.length; i++) {
                if (unit(words[i]) == unit) {
                    queues.get(unit).add(i);
                }
            }
        }
        int[] busy = {NONE, NONE, NONE};
        int now = 0;
        int quiet = 0;
        // A few cycles more than needed, for what is asked behind the end.
        while (quiet < 5) {
            for (int unit = 0; unit < 3; unit++) {
                if (busy[unit] != NONE && ended[busy[unit]] == now) {
                    long word = words[busy[unit]];
                    act(word);
                    if (bits(word, 6, 1) == 1) {
                        tokens[unit == 1 ? 1 : 3]++;
                    }
                    if (bits(word, 7, 1) == 1) {
                        tokens[unit == 0 ? 0 : 2]++;
                    }
                    busy[unit] = NONE;
                }
            }
            int begun = 0;
            for (int unit = 0; unit < 3 && why == 0; unit++) {
                if (busy[unit] != NONE || queues.get(unit).isEmpty()) {
                    continue;
                }
                int i = queues.get(unit).get(0);
                if (missing(unit, words[i]) != 0) {
                    continue;
                }
                boolean races = false;
                for (int other = 0; other < 3; other++) {
                    races |= busy[other] != NONE && race(words[i], words[busy[other]], side);
                }
                if (races) {
                    why = 3;
                    which = i;
                    cycle = now;
                    break;
                }
                if (bits(words[i], 4, 1) == 1) {
                    tokens[unit == 1 ? 0 : 2]--;
                }
                if (bits(words[i], 5, 1) == 1) {
                    tokens[unit == 0 ? 1 : 3]--;
                }
                queues.get(unit).remove(0);
                busy[unit] = i;
                began[i] = now;
                ended[i] = now + cycles(words[i], side);
                worked[unit] += cycles(words[i], side);
                begun++;
            }
            boolean nothing = busy[0] == NONE && busy[1] == NONE && busy[2] == NONE;
            if (why == 0 && nothing && begun == 0) {
                cycle = now;
                why = 1;
                for (int unit = 0; unit < 3; unit++) {
                    if (!queues.get(unit).isEmpty()) {
                        why = 4;
                        which = which == NONE ? queues.get(unit).get(0) : Math.min(which, queues.get(unit).get(0));
                    }
                }
            }
            int[] waiting = new int[3];
            for (int unit = 0; unit < 3; unit++) {
                boolean idle = busy[unit] == NONE && !queues.get(unit).isEmpty();
                waiting[unit] = idle ? missing(unit, words[queues.get(unit).get(0)]) : 0;
            }
            under.add(busy.clone());
            waits.add(waiting);
            now++;
            quiet = nothing && why != 0 ? quiet + 1 : 0;
        }
    }

    private int missing(int unit, long word) {
        int missing = 0;
        if (bits(word, 4, 1) == 1 && tokens[unit == 1 ? 0 : 2] == 0) {
            missing++;
        }
        if (bits(word, 5, 1) == 1 && tokens[unit == 0 ? 1 : 3] == 0) {
            missing += 2;
        }
        return missing;
    }

    private static int upTo(Random random, int most) {
        return random.nextInt(most + 1);
    }

    /** A word that is legal mostly. */
    private static long any(Random random, int t, int apart, boolean oftenWrong) {
        int kind = 1 + random.nextInt(9);
        int n = kind == 5 ? 2 + upTo(random, 2 * t - 1) : kind == 6 || kind == 9 ? upTo(random, 2)
                : kind == 7 ? upTo(random, 31) : 0;
        int unit = kind == 9 ? n : kind < 5 ? 0 : kind < 8 ? 1 : 2;
        long word = kind | (long) n << 59;
        if (random.nextInt(3) == 0) {
            word |= (long) (random.nextInt(16) & random.nextInt(16)) << 4;
            word &= unit == 0 ? ~0x50L : unit == 2 ? ~0xA0L : -1L;
        }
        if (kind != 9) {
            word |= (long) (1 + upTo(random, 5)) << 20 | (long) (1 + upTo(random, t - 1)) << 26;
            boolean hasAddress = kind == 1 || kind == 2 || kind == 4 || kind == 8;
            word |= hasAddress ? (long) upTo(random, MOST_ADDRESS) << 8 : 0;
            word |= (long) upTo(random, apart) << 31;
            word |= kind == 5 || kind == 6 || kind == 7 ? (long) upTo(random, apart) << 40 : 0;
            word |= hasAddress ? (long) upTo(random, 10) << 49 : kind == 5 ? (long) upTo(random, apart) << 49 : 0;
        }
        if (oftenWrong) {
            word ^= 1L << random.nextInt(64);
        }
        return word;
    }

    private static void illegal(Random random) {
        int wrong = 0;
        for (int turn = 0; turn < 60000; turn++) {
            int t = 2 + random.nextInt(7);
            Forge x = new Forge();
            x.side(t);
            long word = turn % 3 == 0 ? random.nextLong() : any(random, t, 511, turn % 3 == 1);
            if (turn % 2 == 0) {
                word |= (long) upTo(random, 63) << 20 & (bits(word, 0, 4) == 9 ? 0 : -1);
            }
            boolean due = illegal(word, t);
            wrong += due ? 1 : 0;
            Check.holds("illegal(" + word + ") with side " + t + " is " + due, x.illegal(word) == due);
        }
        Check.holds("both were met", wrong > 5000 && wrong < 55000);
    }

    private static int one(Random random) {
        int t = 2 + random.nextInt(7);
        int apart = random.nextBoolean() ? 200 : 60;
        Forge x = new Forge();
        x.side(t);
        ModelTest model = new ModelTest(t);
        for (int k = 0; k < MOST_ADDRESS + 60; k += 4) {
            int v = random.nextInt();
            x.memory(k, v);
            for (int j = 0; j < 4; j++) {
                model.state[0][k + j] = (byte) (v >> 8 * j);
            }
        }
        int runs = 1 + random.nextInt(3);
        for (int turn = 0; turn < runs; turn++) {
            long[] words = new long[random.nextInt(random.nextInt(10) == 0 ? 60 : 12)];
            x.cut(0);
            int wrongOne = random.nextInt(12) == 0 && words.length > 0 ? random.nextInt(words.length) : NONE;
            for (int i = 0; i < words.length; i++) {
                do {
                    words[i] = any(random, t, apart, i == wrongOne);
                } while (i != wrongOne && illegal(words[i], t));
                x.word(i, words[i]);
            }
            model.forget();
            model.run(words);
            Check.due("run", x.run(), model.why);
            model.compare(x, words, random);
        }
        return model.why;
    }

    private void forget() {
        java.util.Arrays.fill(tokens, 0);
        java.util.Arrays.fill(worked, 0);
        under.clear();
        waits.clear();
        why = 0;
        cycle = 0;
    }

    private void compare(Forge x, long[] words, Random random) {
        Check.due("why", x.stopped(0), why);
        Check.due("which", x.stopped(1), which);
        Check.due("cycle", x.stopped(2), cycle);
        for (int k = 0; k < 3; k++) {
            Check.due("worked", x.stopped(3 + k), worked[k]);
        }
        for (int k = 0; k < 4; k++) {
            Check.due("tokens", x.stopped(6 + k), tokens[k]);
        }
        compareState(x, words, random);
        if (why == 2) {
            Check.refuses("instruction", IllegalStateException.class, () -> x.instruction(0, 0));
            return;
        }
        for (int i = 0; i < words.length; i++) {
            Check.due("unit", x.instruction(i, 0), unit(words[i]));
            Check.due("began", x.instruction(i, 1), began[i]);
            Check.due("ended", x.instruction(i, 2), ended[i]);
        }
        int apart = 1 + under.size() / MOST_CYCLES;
        for (int at = random.nextInt(apart); at < under.size(); at += 1 + random.nextInt(2 * apart - 1)) {
            for (int unit = 0; unit < 3; unit++) {
                Check.due("under(" + unit + ", " + at + ")", x.under(unit, at), under.get(at)[unit]);
                Check.due("waits(" + unit + ", " + at + ")", x.waits(unit, at), waits.get(at)[unit]);
            }
        }
        int last = waits.size() - 1;
        int far = last + random.nextInt(1000000);
        for (int unit = 0; unit < 3; unit++) {
            Check.due("waits far behind", x.waits(unit, far), waits.get(last)[unit]);
            Check.due("under far behind", x.under(unit, far), NONE);
        }
    }

    /** All places that the program touches, and some others. */
    private void compareState(Forge x, long[] words, Random random) {
        boolean[][] asked = new boolean[5][];
        for (int space = 0; space < 5; space++) {
            asked[space] = new boolean[SIZES[space]];
            for (int k = 0; k < 10; k++) {
                asked[space][random.nextInt(SIZES[space])] = true;
            }
        }
        for (long word : words) {
            for (int[] place : touched(word, side)) {
                if (place[1] < SIZES[place[0]]) {
                    asked[place[0]][place[1]] = true;
                }
            }
        }
        for (int space = 0; space < 5; space++) {
            for (int k = 0; k < SIZES[space]; k++) {
                if (asked[space][k]) {
                    Check.due("look(" + space + ", " + k + ")", x.look(space, k), state[space][k]);
                }
            }
        }
    }
}
