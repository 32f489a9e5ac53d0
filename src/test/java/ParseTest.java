import java.util.ArrayList;
import java.util.HashMap;
import java.util.HashSet;
import java.util.List;
import java.util.Map;
import java.util.Random;
import java.util.Set;
import java.util.regex.Matcher;
import java.util.regex.Pattern;

/** Promises 13, 14, 25 and 26 against other readers, of random texts that are right or nearly so. */
public final class ParseTest {
    private static final int NONE = TensorForge.NONE;
    private static final List<String> KINDS =
            List.of("cells", "weights", "clear", "sums", "multiply", "combine", "narrow", "store", "wait");
    private static final String[] FIELDS = {"at", "by", "x", "a", "b", "step", "n"};
    private static final int[] LOWEST = {8, 20, 26, 31, 40, 49, 59};
    private static final int[] MOST = {4095, 63, 31, 511, 511, 1023, 31};
    private static final Set<String> KEPT = Set.of("input", "conv", "pool", "add", "by", "outputs", "at", "step", "edge",
            "shift", "relu", "as", "x");

    public static void main(String[] args) {
        Random random = new Random(3);
        int[] met = new int[4];
        for (int turn = 0; turn < 20000; turn++) {
            met[program(random)]++;
            met[2 + network(random)]++;
        }
        System.out.println("programs " + met[0] + ", with a fault " + met[1] + ", networks " + met[2] + ", with a fault "
                + met[3]);
        for (int many : met) {
            Check.holds("each was met", many > 1000);
        }
        Check.finish();
    }

    /** The tokens of a line; null if something is none. */
    private static ArrayList<String> tokens(String line) {
        ArrayList<String> tokens = new ArrayList<>();
        String bare = line.contains("#") ? line.substring(0, line.indexOf('#')) : line;
        Matcher matcher = Pattern.compile("[a-z]+|[0-9]+|[^a-z0-9 ]").matcher(bare);
        while (matcher.find()) {
            if (!matcher.group().matches("[a-z]+|[0-9]{1,4}")) {
                return null;
            }
            tokens.add(matcher.group());
        }
        return tokens;
    }

    private static boolean isNumber(List<String> tokens, int k) {
        return k < tokens.size() && Character.isDigit(tokens.get(k).charAt(0));
    }

    private static boolean isWord(List<String> tokens, int k, String word) {
        return k < tokens.size() && tokens.get(k).equals(word);
    }

    private static long wordOf(List<String> tokens) {
        int kind = KINDS.indexOf(tokens.get(0)) + 1;
        if (kind == 0) {
            return 0;
        }
        long word = kind;
        Set<String> told = new HashSet<>();
        int k = 1;
        while (k < tokens.size()) {
            String name = tokens.get(k);
            if (name.equals("pop") || name.equals("push")) {
                boolean before = isWord(tokens, k + 1, "before");
                if (!before && !isWord(tokens, k + 1, "behind") || !told.add(name + before)) {
                    return 0;
                }
                word |= 1L << (name.equals("pop") ? 4 : 6) + (before ? 0 : 1);
                k += 2;
                continue;
            }
            int field = List.of(FIELDS).indexOf(name);
            if (field < 0 || field == 2 || !isNumber(tokens, k + 1) || !told.add(name)) {
                return 0;
            }
            int value = Integer.parseInt(tokens.get(k + 1));
            if (value > MOST[field]) {
                return 0;
            }
            word |= (long) value << LOWEST[field];
            k += 2;
            if (field == 1) {
                if (!isWord(tokens, k, "x") || !isNumber(tokens, k + 1) || Integer.parseInt(tokens.get(k + 1)) > 31) {
                    return 0;
                }
                word |= Long.parseLong(tokens.get(k + 1)) << 26;
                k += 2;
            }
        }
        return word;
    }

    private static int program(Random random) {
        StringBuilder text = new StringBuilder();
        int lines = random.nextInt(6);
        for (int k = 0; k < lines; k++) {
            ArrayList<String> parts = new ArrayList<>();
            for (int field = 0; field < 7; field++) {
                if (field != 2 && random.nextInt(3) == 0) {
                    parts.add(FIELDS[field] + gap(random) + value(random, MOST[field])
                            + (field == 1 ? gap(random) + "x" + gap(random) + value(random, 31) : ""));
                }
            }
            for (String tokens : new String[] {"pop before", "pop behind", "push before", "push  behind"}) {
                if (random.nextInt(5) == 0) {
                    parts.add(tokens);
                }
            }
            text.append(line(random, KINDS.get(random.nextInt(9)), parts));
        }
        String whole = change(random, text.toString());
        ArrayList<Long> words = new ArrayList<>();
        int fault = NONE;
        String[] all = whole.split("\n", -1);
        for (int k = 0; k < all.length && fault == NONE; k++) {
            ArrayList<String> tokens = tokens(all[k]);
            long word = tokens == null ? 0 : tokens.isEmpty() ? -1 : wordOf(tokens);
            if (word == 0) {
                fault = k;
            } else if (tokens == null || !tokens.isEmpty()) {
                words.add(word);
            }
        }
        Forge x = new Forge();
        x.word(0, 5);
        Check.due("assemble of\n" + whole + "\n", Check.assemble(x, whole), fault);
        Check.due("length", x.length(), fault == NONE ? words.size() : 1);
        for (int k = 0; k < words.size() && fault == NONE; k++) {
            Check.due("word of\n" + whole + "\n", x.wordOf(k), words.get(k));
        }
        if (fault == NONE) {
            Check.due("assemble of the listing", Check.assemble(x, Check.program(x)), NONE);
            for (int k = 0; k < words.size(); k++) {
                Check.due("word again", x.wordOf(k), words.get(k));
            }
        }
        return fault == NONE ? 0 : 1;
    }

    private static String gap(Random random) {
        return " ".repeat(random.nextInt(3));
    }

    private static int value(Random random, int most) {
        return random.nextInt(40) == 0 ? most + 1 : random.nextInt(10) == 0 ? most : random.nextInt(most + 1);
    }

    private static String line(Random random, String head, ArrayList<String> parts) {
        StringBuilder line = new StringBuilder(gap(random)).append(head);
        while (!parts.isEmpty()) {
            line.append(' ').append(gap(random)).append(parts.remove(random.nextInt(parts.size())));
        }
        line.append(random.nextInt(8) == 0 ? "# x" : "").append(random.nextInt(9) == 0 ? "\n" : "").append('\n');
        return line.toString();
    }

    /** The text, or the text with a sign or token more, less or changed. */
    private static String change(Random random, String text) {
        if (text.isEmpty() || random.nextInt(5) < 3) {
            return text;
        }
        int at = random.nextInt(text.length());
        switch (random.nextInt(7)) {
            case 0:
                return text.substring(0, at) + text.substring(at + 1);
            case 1:
                return text.substring(0, at) + (char) (32 + random.nextInt(95)) + text.substring(at);
            case 2:
                return text.substring(0, at) + "\n" + text.substring(at);
            case 3:
                return text.substring(0, at);
            case 4:
                String[] some = {" x ", " by 1 x 1 ", " at 1 ", " pop before ", " relu ", " step 1 ", " as q ", " 1 ", " shift 1"};
                return text.substring(0, at) + some[random.nextInt(some.length)] + text.substring(at);
            case 5:
                return text.replaceFirst(" (by|at|step|outputs) ", " ");
            default:
                return text + text;
        }
    }

    private static int network(Random random) {
        StringBuilder text = new StringBuilder();
        ArrayList<String> names = new ArrayList<>();
        int layers = random.nextInt(5);
        for (int k = 0; k <= layers; k++) {
            ArrayList<String> parts = new ArrayList<>();
            String of = random.nextInt(names.size() + 1) == 0 ? "" + (k == 0 ? 0 : random.nextInt(k))
                    : names.get(random.nextInt(names.size() == 0 ? 1 : names.size()));
            int kind = k == 0 ? 0 : 1 + random.nextInt(3);
            if (kind == 1 || kind == 2) {
                parts.add("by" + gap(random) + (1 + random.nextInt(2)) + "x" + gap(random) + value(random, 3));
            }
            if (kind == 1) {
                parts.add("outputs " + value(random, 8));
                parts.add("at " + value(random, 3500));
            }
            if (kind == 1 && random.nextBoolean()) {
                parts.add("edge " + random.nextInt(2));
            }
            if (kind == 1 || kind == 2) {
                parts.add(random.nextBoolean() ? "" : "step " + (1 + random.nextInt(2)));
            }
            if (kind == 1 || kind == 3) {
                parts.add(random.nextBoolean() ? "" : "shift " + value(random, 15));
                parts.add(random.nextBoolean() ? "" : "relu");
            }
            String head = kind == 0 ? "input " + (3 + random.nextInt(6)) + " x " + (3 + random.nextInt(6)) + " x "
                    + (1 + random.nextInt(3)) : kind == 1 ? "conv " + of : kind == 2 ? "pool " + of
                    : "add " + of + " " + (random.nextInt(5) == 0 ? "0" : of);
            if (random.nextInt(3) == 0) {
                String name = random.nextInt(20) == 0 ? "relu" : "" + (char) ('a' + random.nextInt(26));
                names.add(name);
                parts.add("as " + name);
            }
            text.append(line(random, head, parts));
        }
        String whole = change(random, text.toString());
        Forge model = new Forge();
        int fault = read(whole, model);
        Forge x = new Forge();
        x.input(2, 3, 4);
        x.addition(0, 0, 1);
        Check.due("network of\n" + whole + "\n", Check.network(x, whole), fault);
        String due = fault == NONE ? Check.network(model) : "input 2 x 3 x 4\nadd 0 0 shift 1\n";
        Check.due("network of\n" + whole + "\n", Check.network(x), due);
        if (fault == NONE) {
            for (int k = 0; k < Check.tensors(model); k++) {
                for (int what = 0; what < 4; what++) {
                    Check.due("form", x.form(k, what), model.form(k, what));
                }
            }
            Check.due("network of the listing", Check.network(x, due), NONE);
            Check.due("listing of the listing", Check.network(x), due);
        }
        return fault == NONE ? 0 : 1;
    }

    /** Reads a network by the calls. */
    private static int read(String text, Forge x) {
        Map<String, Integer> names = new HashMap<>();
        boolean begun = false;
        String[] lines = text.split("\n", -1);
        for (int k = 0; k < lines.length; k++) {
            ArrayList<String> tokens = tokens(lines[k]);
            if (tokens != null && tokens.isEmpty()) {
                continue;
            }
            try {
                if (tokens == null || !readLine(tokens, x, begun, names)) {
                    return k;
                }
            } catch (IllegalArgumentException | IndexOutOfBoundsException | UnsupportedOperationException e) {
                return k;
            }
            begun = true;
        }
        return begun ? NONE : lines.length;
    }

    private static boolean readLine(List<String> tokens, Forge x, boolean begun, Map<String, Integer> names) {
        String line = String.join(" ", tokens);
        if (!begun) {
            Matcher input = Pattern.compile("input ([0-9]+) x ([0-9]+) x ([0-9]+)( as ([a-z]+))?").matcher(line);
            if (!input.matches() || input.group(5) != null && !named(input.group(5), 0, names)) {
                return false;
            }
            x.input(Integer.parseInt(input.group(1)), Integer.parseInt(input.group(2)), Integer.parseInt(input.group(3)));
            return true;
        }
        Matcher head = Pattern.compile("(conv|pool) ([a-z]+|[0-9]+)( .*)?|(add) ([a-z]+|[0-9]+) ([a-z]+|[0-9]+)( .*)?")
                .matcher(line);
        if (!head.matches()) {
            return false;
        }
        boolean add = head.group(4) != null;
        boolean conv = !add && head.group(1).equals("conv");
        Integer one = tensor(add ? head.group(5) : head.group(2), names);
        Integer two = add ? tensor(head.group(6), names) : one;
        if (one == null || two == null) {
            return false;
        }
        String rest = add ? head.group(7) : head.group(3);
        Map<String, String> told = new HashMap<>();
        Pattern option = Pattern.compile(" (?:(by) ([0-9]+ x [0-9]+)|(outputs|at|step|edge|shift) ([0-9]+)|(relu)()|(as) ([a-z]+))");
        while (rest != null && !rest.isEmpty()) {
            Matcher next = option.matcher(rest);
            if (!next.lookingAt()) {
                return false;
            }
            for (int g = 1; g < 9; g += 2) {
                if (next.group(g) != null && told.put(next.group(g), next.group(g + 1)) != null) {
                    return false;
                }
            }
            rest = rest.substring(next.end());
            if (!rest.isEmpty() && rest.charAt(0) != ' ') {
                return false;
            }
        }
        Set<String> may = conv ? Set.of("by", "outputs", "at", "step", "edge", "shift", "relu", "as")
                : add ? Set.of("shift", "relu", "as") : Set.of("by", "step", "as");
        Set<String> must = conv ? Set.of("by", "outputs", "at") : add ? Set.of() : Set.of("by");
        if (!may.containsAll(told.keySet()) || !told.keySet().containsAll(must)) {
            return false;
        }
        int step = Integer.parseInt(told.getOrDefault("step", "1"));
        int edge = Integer.parseInt(told.getOrDefault("edge", "0"));
        int shift = Integer.parseInt(told.getOrDefault("shift", "0"));
        String[] by = told.getOrDefault("by", "1 x 1").split(" x ");
        int high = Integer.parseInt(by[0]);
        int wide = Integer.parseInt(by[1]);
        if (shift > 15 || edge > 1 || high > 3 || wide > 3) {
            return false;
        }
        int how = shift + (told.containsKey("relu") ? 16 : 0);
        if (told.containsKey("as") && !named(told.get("as"), Check.tensors(x), names)) {
            return false;
        }
        if (conv) {
            x.convolution(one, 10 * high + wide, Integer.parseInt(told.get("outputs")), 10 * step + edge, how,
                    Integer.parseInt(told.get("at")));
        } else if (add) {
            x.addition(one, two, how);
        } else {
            x.pool(one, 10 * high + wide, step);
        }
        return true;
    }

    private static boolean named(String name, int tensor, Map<String, Integer> names) {
        return name.length() <= 8 && !KEPT.contains(name) && names.put(name, tensor) == null;
    }

    private static Integer tensor(String token, Map<String, Integer> names) {
        return Character.isDigit(token.charAt(0)) ? Integer.valueOf(token) : names.get(token);
    }
}
