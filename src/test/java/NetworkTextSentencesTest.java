/** Sentences of the document's terms, 4 (networks as texts) and 5 (places anew), and promises 25 to 27. */
public final class NetworkTextSentencesTest {
    private static final Class<IndexOutOfBoundsException> INDEX = IndexOutOfBoundsException.class;
    private static final Class<UnsupportedOperationException> UNSUPPORTED = UnsupportedOperationException.class;
    private static final int NONE = TensorForge.NONE;
    private static final int MAX = Integer.MAX_VALUE;
    private static final int MIN = Integer.MIN_VALUE;
    private static final String INPUT = "input 5 x 6 x 2\n";

    public static void main(String[] args) {
        linesAndTokens();
        firstLine();
        layerLines();
        anyOrder();
        eachOnce();
        by();
        outputsAndAddress();
        step();
        edge();
        shiftAndRelu();
        notToldInTheSamePlace();
        asOfAll();
        tensors();
        names();
        namesOfThisSection();
        namesToldAhead();
        faultLine();
        layersThatCannotBe();
        inputsThatCannotBe();
        withoutTokens();
        listingLines();
        listingOptions();
        becomesTheNetwork();
        theNetworkStays();
        networkSigns();
        networkSignRefuses();
        leastPlace();
        neededByThisLayer();
        neededByALaterLayer();
        takenByNone();
        exactGaps();
        programAfterPlace();
        laterLayers();
        greatestEnd();
        placeBeyond();
        Check.finish();
    }

    private static void fine(String text, String listing) {
        Forge x = new Forge();
        x.input(3, 3, 3);
        x.pool(0, 22, 1);
        Check.due("network of " + text, Check.network(x, text), NONE);
        Check.due("listing of " + text, Check.network(x), listing);
    }

    private static void fault(String text, int line) {
        Forge x = new Forge();
        x.input(3, 3, 3);
        x.pool(0, 22, 1);
        Check.due("network of " + text, Check.network(x, text), line);
        Check.due("the network stays", Check.networkAndPlaces(x), "input 3 x 3 x 3\npool 0 by 2 x 2\n0 27 \n");
    }

    private static void linesAndTokens() {
        Check.sentence("NETWORKS AS TEXTS: lines, tokens and comments as in 2");
        String due = "input 1 x 2 x 3\nadd 0 0\n";
        fine("input 1 x 2 x 3\nadd 0 0", due);
        fine("input1x2x3\nadd 0 0\n", due);
        fine("\n\n  input 1x 2x 3  \n\n # nothing\nadd 0 0#1\n\n", due);
        fine("#?\ninput 0001 x 0002 x 0003 # ?\nadd 0000 0", due);
        fine("input 1 x 2 x 3\nadd 0 0 as a\nadd 1a", due + "add 1 1\n");
        fault("input 1 x 2 x 3\nadd00", 1);
        fault("input 1 x 2 x 3\nadd 00", 1);
        fault("input 1 x 2 x 3 add 0 0", 0);
        fault("input 1 x\n2 x 3", 0);
        fault("input 00001 x 2 x 3", 0);
        fault("input 1 X 2 x 3", 0);
        fault("input 1 xx 2 x 3", 0);
        fault("INPUT 1 x 2 x 3", 0);
        fault("input 1 x 2 x 3\nadd 0 0.", 1);
        fault("input 1 x 2 x 3\n?", 1);
    }

    private static void firstLine() {
        Check.sentence("The first line that isn't blank is input NUMBER x NUMBER x NUMBER (height, width, channels)");
        fine("input 4 x 5 x 6", "input 4 x 5 x 6\n");
        fine("\n\n\ninput 4 x 5 x 6", "input 4 x 5 x 6\n");
        fault("conv 0 by 1 x 1 outputs 1 at 0", 0);
        fault("\npool 0 by 1 x 1\ninput 4 x 5 x 6", 1);
        fault("add 0 0\ninput 4 x 5 x 6", 0);
        for (String wrong : new String[] {"input", "input 4", "input 4 x", "input 4 x 5", "input 4 x 5 x", "input 4 5 6",
            "input x 5 x 6", "input 4 x x 6", "input 4 x 5 x x", "input 4 x 5 x 6 x 7", "input 4 x 5 x 6 7", "in 4 x 5 x 6",
            "inputs 4 x 5 x 6", "4 x 5 x 6"}) {
            fault("# first\n" + wrong, 1);
        }
    }

    private static void layerLines() {
        Check.sentence("the others are layers: conv TENSOR, pool TENSOR, add TENSOR TENSOR");
        fine(INPUT + "conv 0 by 1 x 1 outputs 2 at 0", INPUT + "conv 0 by 1 x 1 outputs 2 at 0\n");
        fine(INPUT + "pool 0 by 1 x 1", INPUT + "pool 0 by 1 x 1\n");
        fine(INPUT + "add 0 0", INPUT + "add 0 0\n");
        fine(INPUT, INPUT);
        for (String wrong : new String[] {"input 5 x 6 x 2", "conv by 1 x 1 outputs 2 at 0", "conv 0 0 by 1 x 1 outputs 2 at 0",
            "pool by 1 x 1", "pool 0 0 by 1 x 1", "add", "add 0", "add 0 0 0", "cells", "wait", "convs 0", "addition 0 0", "0",
            "by 1 x 1 pool 0", "x", "relu", "as a"}) {
            fault(INPUT + wrong, 1);
        }
    }

    private static void anyOrder() {
        Check.sentence("Behind it, in any order");
        String[] parts = {"by 2 x 3", "outputs 4", "at 5", "step 2", "edge 1", "shift 6", "relu", "as a"};
        for (int first = 0; first < parts.length; first++) {
            for (int apart : new int[] {1, 3, 5, 7}) {
                StringBuilder text = new StringBuilder(INPUT + "conv 0");
                for (int k = 0; k < parts.length; k++) {
                    text.append(' ').append(parts[(first + apart * k) % parts.length]);
                }
                fine(text.toString(), INPUT + "conv 0 by 2 x 3 outputs 4 at 5 step 2 edge 1 shift 6 relu\n");
            }
        }
        for (String pool : new String[] {"by 2 x 3 step 3 as a", "step 3 as a by 2 x 3", "as a by 2 x 3 step 3"}) {
            fine(INPUT + "pool 0 " + pool, INPUT + "pool 0 by 2 x 3 step 3\n");
        }
        for (String add : new String[] {"shift 1 relu as a", "relu as a shift 1", "as a shift 1 relu"}) {
            fine(INPUT + "add 0 0 " + add, INPUT + "add 0 0 shift 1 relu\n");
        }
    }

    private static void eachOnce() {
        Check.sentence("each at most once");
        String conv = INPUT + "conv 0 by 1 x 1 outputs 1 at 0 step 1 edge 0 shift 0 relu as a";
        fine(conv, INPUT + "conv 0 by 1 x 1 outputs 1 at 0 relu\n");
        for (String twice : new String[] {"by 1 x 1", "outputs 1", "at 0", "step 1", "edge 0", "shift 0", "relu", "as b"}) {
            fault(conv + " " + twice, 1);
        }
        for (String twice : new String[] {"by 1 x 1", "step 1", "as b"}) {
            fault(INPUT + "pool 0 by 1 x 1 step 1 as a " + twice, 1);
        }
        for (String twice : new String[] {"shift 0", "relu", "as b"}) {
            fault(INPUT + "add 0 0 shift 0 relu as a " + twice, 1);
        }
        fault("input 5 x 6 x 2 as a as b", 0);
        fine(INPUT + "add 0 0 relu\nadd 0 0 relu", INPUT + "add 0 0 relu\nadd 0 0 relu\n");
    }

    private static void by() {
        Check.sentence("by NUMBER x NUMBER (of conv and pool, and needed there: the kernel's height and width)");
        fine(INPUT + "pool 0 by 2 x 3", INPUT + "pool 0 by 2 x 3\n");
        fault(INPUT + "pool 0", 1);
        fault(INPUT + "pool 0 step 1", 1);
        fault(INPUT + "conv 0 outputs 1 at 0", 1);
        fault(INPUT + "add 0 0 by 1 x 1", 1);
        fault("input 5 x 6 x 2 by 1 x 1", 0);
        for (String wrong : new String[] {"by", "by 1", "by 1 x", "by 1 1", "by x 1", "by 11", "by 0 x 1", "by 1 x 0", "by 4 x 1",
            "by 1 x 4", "by 0 x 11", "by 1 x 11", "by 1 x 1 x 1", "by 0 x 0", "by 9999 x 1"}) {
            fault(INPUT + "pool 0 " + wrong, 1);
            fault(INPUT + "conv 0 outputs 1 at 0 " + wrong, 1);
        }
    }

    private static void outputsAndAddress() {
        Check.sentence("outputs NUMBER, at NUMBER (of conv, needed: the parameters' address)");
        fine(INPUT + "conv 0 by 1 x 1 outputs 16 at 4000", INPUT + "conv 0 by 1 x 1 outputs 16 at 4000\n");
        fine(INPUT + "conv 0 by 1 x 1 outputs 1 at 4090", INPUT + "conv 0 by 1 x 1 outputs 1 at 4090\n");
        fine(INPUT + "conv 0 by 1 x 1 outputs 1 at 0", INPUT + "conv 0 by 1 x 1 outputs 1 at 0\n");
        for (String wrong : new String[] {"at 0", "outputs 1", "", "outputs at 0", "outputs 1 at", "outputs 0 at 0",
            "outputs 17 at 0", "outputs 1 at 4091", "outputs 1 at 9999", "outputs 16 at 4001"}) {
            fault(INPUT + "conv 0 by 1 x 1 " + wrong, 1);
        }
        for (String wrong : new String[] {"outputs 1", "at 0"}) {
            fault(INPUT + "pool 0 by 1 x 1 " + wrong, 1);
            fault(INPUT + "add 0 0 " + wrong, 1);
            fault("input 5 x 6 x 2 " + wrong, 0);
        }
    }

    private static void step() {
        Check.sentence("step NUMBER (of conv and pool; 1 if it isn't told)");
        String conv = INPUT + "conv 0 by 1 x 1 outputs 1 at 0";
        fine(conv + " step 1", conv + "\n");
        fine(conv + " step 2", conv + " step 2\n");
        fine(INPUT + "pool 0 by 1 x 1 step 0003", INPUT + "pool 0 by 1 x 1 step 3\n");
        fault(conv + " step 0", 1);
        fault(conv + " step 3", 1);
        fault(conv + " step", 1);
        fault(INPUT + "pool 0 by 1 x 1 step 0", 1);
        fault(INPUT + "pool 0 by 1 x 1 step 4", 1);
        fault(INPUT + "add 0 0 step 1", 1);
        fault("input 5 x 6 x 2 step 1", 0);
        // A line's step isn't the next one's.
        Forge x = new Forge();
        Check.due("network", Check.network(x, INPUT + "pool 0 by 1 x 1 step 3\npool 0 by 1 x 1"), NONE);
        Check.due("height", x.form(2, 0), 5);
    }

    private static void edge() {
        Check.sentence("edge NUMBER (of conv; 0)");
        String conv = INPUT + "conv 0 by 1 x 1 outputs 1 at 0";
        fine(conv + " edge 0", conv + "\n");
        fine(conv + " edge 1", conv + " edge 1\n");
        fault(conv + " edge 2", 1);
        fault(conv + " edge 10", 1);
        fault(conv + " edge", 1);
        fault(INPUT + "pool 0 by 1 x 1 edge 0", 1);
        fault(INPUT + "add 0 0 edge 0", 1);
        fault("input 5 x 6 x 2 edge 0", 0);
        fine(conv + " edge 1\nconv 0 by 1 x 1 outputs 1 at 0", conv + " edge 1\nconv 0 by 1 x 1 outputs 1 at 0\n");
        // Ten times the step and the edge of a call isn't so here.
        fault(conv + " step 0 edge 10", 1);
        fault(conv + " step 1 edge 10", 1);
    }

    private static void shiftAndRelu() {
        Check.sentence("shift NUMBER, relu (of conv and add; 0, not)");
        for (String layer : new String[] {"conv 0 by 1 x 1 outputs 1 at 0", "add 0 0"}) {
            fine(INPUT + layer + " shift 0", INPUT + layer + "\n");
            fine(INPUT + layer + " shift 15", INPUT + layer + " shift 15\n");
            fine(INPUT + layer + " relu", INPUT + layer + " relu\n");
            fine(INPUT + layer + " relu shift 15", INPUT + layer + " shift 15 relu\n");
            fault(INPUT + layer + " shift 16", 1);
            fault(INPUT + layer + " shift 31", 1);
            fault(INPUT + layer + " shift 16 relu", 1);
            fault(INPUT + layer + " shift", 1);
            fault(INPUT + layer + " relu 1", 1);
            fine(INPUT + layer + " relu shift 3\nadd 0 0", INPUT + layer + " shift 3 relu\nadd 0 0\n");
        }
        fault(INPUT + "pool 0 by 1 x 1 shift 0", 1);
        fault(INPUT + "pool 0 by 1 x 1 relu", 1);
        fault("input 5 x 6 x 2 shift 0", 0);
        fault("input 5 x 6 x 2 relu", 0);
    }

    private static void notToldInTheSamePlace() {
        Check.sentence("1 if it isn't told; 0; not: whatever an earlier layer of the same number told");
        String told = "conv 0 by 3 x 2 outputs 4 at 900 step 2 edge 1 shift 5 relu\n";
        String[] layers = {"conv 0 by 1 x 1 outputs 2 at 7\n", "pool 0 by 2 x 2\n", "add 0 0\n"};
        String[] forms = {"5 6 2 60 ", "4 5 2 60 ", "5 6 2 60 "};
        for (int k = 0; k < 3; k++) {
            Forge x = new Forge();
            Forge y = new Forge();
            for (int turn = 0; turn < 2; turn++) {
                Check.due("network", Check.network(x, INPUT + told), NONE);
                y.input(5, 6, 2);
                Check.due("convolution", y.convolution(0, 32, 4, 21, 21, 900), 1);
            }
            for (int turn = 0; turn < 3; turn++) {
                Check.due("network", Check.network(x, INPUT + layers[k]), NONE);
                y.input(5, 6, 2);
                Check.due("by a call", k == 0 ? y.convolution(0, 11, 2, 10, 0, 7) : k == 1 ? y.pool(0, 22, 1)
                        : y.addition(0, 0, 0), 1);
                for (Forge one : new Forge[] {x, y}) {
                    StringBuilder form = new StringBuilder();
                    for (int what = 0; what < 4; what++) {
                        form.append(one.form(1, what)).append(' ');
                    }
                    Check.due("form of " + layers[k], form.toString(), forms[k]);
                    Check.due("listing", Check.networkLine(one, 1), layers[k]);
                }
            }
            Check.due("compile", x.compile(), y.compile());
            Check.due("words", Check.words(x), Check.words(y));
        }
    }

    private static void asOfAll() {
        Check.sentence("as NAME (of all, input too)");
        fine("input 5 x 6 x 2 as p\nconv p by 1 x 1 outputs 2 at 0 as q\npool q by 1 x 1 as r\nadd r q as s\nadd p s",
                INPUT + "conv 0 by 1 x 1 outputs 2 at 0\npool 1 by 1 x 1\nadd 2 1\nadd 0 3\n");
        fault("input 5 x 6 x 2 as", 0);
        fault("input 5 x 6 x 2 as 5", 0);
        fault(INPUT + "add 0 0 as", 1);
        fault(INPUT + "add 0 0 as 1", 1);
        fault(INPUT + "add as a 0 0", 1);
    }

    private static void tensors() {
        Check.sentence("A TENSOR is a number (0 the input, 1, .. the layers as they stand) or a NAME that a line ahead told");
        fine(INPUT + "add 0 0\nadd 1 0\nadd 2 1", INPUT + "add 0 0\nadd 1 0\nadd 2 1\n");
        fault(INPUT + "add 0 1", 1);
        fault(INPUT + "add 1 0", 1);
        fault(INPUT + "pool 1 by 1 x 1", 1);
        fault(INPUT + "pool 9999 by 1 x 1", 1);
        fault(INPUT + "pool 00000 by 1 x 1", 1);
        fault(INPUT + "pool a by 1 x 1", 1);
        // Its own line's name and that of a later line aren't told ahead.
        fault(INPUT + "pool a by 1 x 1 as a", 1);
        fault(INPUT + "add 0 a as a", 1);
        fault(INPUT + "add 0 b\nadd 0 0 as b", 1);
        fine(INPUT + "add 0 0 as b\nadd 0 b", INPUT + "add 0 0\nadd 0 1\n");
        StringBuilder ten = new StringBuilder("input 1 x 1 x 1\n");
        for (int k = 0; k < 9; k++) {
            ten.append("add 0 ").append(k).append('\n');
        }
        fine(ten + "add 9 9", ten + "add 9 9\n");
        fault(ten + "add 10 9", 10);
    }

    private static void names() {
        Check.sentence("A NAME is a word of one to eight letters");
        for (String name : new String[] {"a", "z", "ab", "abcdefg", "abcdefgh", "zzzzzzzz", "cells", "n", "b", "pop", "xx"}) {
            fine("input 5 x 6 x 2 as " + name + "\nadd " + name + " " + name, INPUT + "add 0 0\n");
        }
        for (String name : new String[] {"abcdefghi", "abcdefghij", "A", "aB", "a1", "1a", "a_b", "-", "9", "a{", "{",
            "{a", "a`", "`", "`a", "Z", "[", "/", ":", "a?"}) {
            fault("input 5 x 6 x 2 as " + name, 0);
            fault(INPUT + "add 0 0 as " + name, 1);
        }
        // A name is the whole of a word.
        fault("input 5 x 6 x 2 as abc\nadd ab 0", 1);
        fault("input 5 x 6 x 2 as ab\nadd abc 0", 1);
        fault("input 5 x 6 x 2 as ab\nadd 0 ac", 1);
        fault("input 5 x 6 x 2 as ab\nadd 0 bb", 1);
        fine("input 5 x 6 x 2 as ab\nadd 0 0 as abc\nadd abc ab", INPUT + "add 0 0\nadd 1 0\n");
    }

    private static void namesOfThisSection() {
        Check.sentence("none of those of this section (x too)");
        for (String name : new String[] {"input", "conv", "pool", "add", "by", "outputs", "at", "step", "edge", "shift", "relu",
            "as", "x"}) {
            fault("input 5 x 6 x 2 as " + name, 0);
            fault(INPUT + "add 0 0 as " + name, 1);
            fault(INPUT + "pool 0 by 1 x 1 as " + name, 1);
            fault(INPUT + "pool " + name + " by 1 x 1", 1);
        }
    }

    private static void namesToldAhead() {
        Check.sentence("and none that was told ahead");
        fault("input 5 x 6 x 2 as a\nadd 0 0 as a", 1);
        fault("input 5 x 6 x 2 as a\nadd 0 0 as b\nadd 0 0 as b", 2);
        fault("input 5 x 6 x 2 as a\nadd 0 0 as b\nadd 0 0 as a", 2);
        fine("input 5 x 6 x 2 as a\nadd 0 0 as aa\nadd a aa", INPUT + "add 0 0\nadd 0 1\n");
        // What an earlier text told is told no more.
        Forge x = new Forge();
        Check.due("first", Check.network(x, "input 5 x 6 x 2 as a\nadd a a as b"), NONE);
        Check.due("again", x.network(), NONE);
        Check.due("its names are gone", Check.network(x, INPUT + "add 0 b"), 1);
        Check.due("also with a fault", Check.network(x, "input 5 x 6 x 2 as c\nadd c c as d\n?"), 2);
        Check.due("its names are gone", Check.network(x, INPUT + "add 0 d"), 1);
        Check.due("and can be told", Check.network(x, "input 5 x 6 x 2 as c\nadd c c as d"), NONE);
        // A line without a name has none, wherever the latest name was told.
        for (int blanks = 1; blanks < 10; blanks++) {
            Forge y = new Forge();
            Check.due("with a name", Check.network(y, "input 5 x 6 x 2 as" + " ".repeat(blanks) + "a"), NONE);
            Check.due("without one", Check.network(y, INPUT + "add dd dd"), 1);
            Check.due("without one", Check.network(y, INPUT + "add i i"), 1);
            Check.due("without one", Check.network(y, INPUT + "add 0 0 as i\nadd i i"), NONE);
            Check.due("with a name", Check.network(y, "input 5 x 6 x 2 as" + " ".repeat(blanks) + "d"), NONE);
            Check.due("without one", Check.network(y, INPUT + "add d d"), 1);
        }
    }

    private static void faultLine() {
        Check.sentence("FAULT: the first line, from 0 on, all lines counted, that isn't such");
        fault("?", 0);
        fault("\n\n?", 2);
        fault("# a\n\ninput 5 x 6 x 2\n\n# b\nadd 0 0\n  \nadd 0 9\n?\n", 7);
        fault(INPUT + "\n".repeat(100) + "add 0", 101);
        fault(INPUT + "add 0 0\nadd 1\nadd 0 0", 2);
    }

    private static void layersThatCannotBe() {
        Check.sentence("or whose layer can't be, as the calls below have it");
        fault("input 2 x 3 x 1\npool 0 by 3 x 1", 1);
        fault("input 3 x 2 x 1\npool 0 by 1 x 3", 1);
        fault("input 63 x 1 x 1\nconv 0 by 1 x 1 outputs 1 at 0 edge 1", 1);
        fault("input 1 x 63 x 1\nconv 0 by 1 x 2 outputs 1 at 0 edge 1", 1);
        fault(INPUT + "pool 0 by 2 x 1\nadd 0 1", 2);
        fault(INPUT + "pool 0 by 1 x 2\nadd 1 0", 2);
        fault("input 6 x 63 x 3\npool 0 by 2 x 3", 1);
        fine("input 1 x 32 x 32\npool 0 by 1 x 1", "input 1 x 32 x 32\npool 0 by 1 x 1\n");
        fault("input 1 x 21 x 45\nconv 0 by 1 x 1 outputs 16 at 0 edge 1", 1);
        fine("input 1 x 20 x 52\nconv 0 by 1 x 2 outputs 16 at 0 edge 1",
                "input 1 x 20 x 52\nconv 0 by 1 x 2 outputs 16 at 0 edge 1\n");
        fault("input 11 x 43 x 3\npool 0 by 2 x 2 step 2\nadd 1 1", 2);
        String ten = "input 1 x 1 x 1\n" + "add 0 0\n".repeat(10);
        fine(ten, ten);
        fault(ten + "add 0 0", 11);
        fault(ten + "\n\npool 0 by 1 x 1", 13);
    }

    private static void inputsThatCannotBe() {
        Check.sentence("(or input) can't be");
        for (String form : new String[] {"0 x 1 x 1", "1 x 0 x 1", "1 x 1 x 0", "64 x 1 x 1", "1 x 64 x 1", "1 x 1 x 64",
            "41 x 50 x 1", "63 x 63 x 63", "9999 x 9999 x 9999"}) {
            fault("\ninput " + form + "\nadd 0 0", 1);
        }
        for (String form : new String[] {"63 x 1 x 1", "1 x 63 x 1", "1 x 1 x 63", "32 x 32 x 2"}) {
            fine("input " + form, "input " + form + "\n");
        }
    }

    private static void withoutTokens() {
        Check.sentence("how many lines there are (one more behind a last line end), if none has a token");
        fault("", 1);
        fault(" ", 1);
        fault("#", 1);
        fault("# input 1 x 1 x 1", 1);
        fault("\n", 2);
        fault("\n\n", 3);
        fault("  \n#\n  # a", 3);
        fault("  \n#\n  # a\n", 4);
        fault("\n".repeat(1500), 1501);
        fault(" ".repeat(1500), 1);
        Forge x = new Forge();
        Check.due("of a new object", x.network(), 1);
    }

    private static void listingLines() {
        Check.sentence("A network's LISTING has a line for the input and one for each layer, as above, with tensors as numbers");
        Forge x = new Forge();
        Check.due("a new object's", Check.network(x), "input 1 x 1 x 1\n");
        x.input(63, 3, 1);
        x.convolution(0, 23, 16, 21, 31, 2500);
        x.pool(1, 32, 3);
        x.addition(2, 2, 15);
        x.addition(2, 3, 16);
        Check.due("by calls", Check.network(x), "input 63 x 3 x 1\n"
                + "conv 0 by 2 x 3 outputs 16 at 2500 step 2 edge 1 shift 15 relu\npool 1 by 3 x 2 step 3\nadd 2 2 shift 15\n"
                + "add 2 3 relu\n");
        fine("input 2 x 2 x 2 as in\nadd in in as out\nadd in out\n", "input 2 x 2 x 2\nadd 0 0\nadd 0 1\n");
    }

    private static void listingOptions() {
        Check.sentence("and in this order: by, outputs, at, step (if it isn't 1), edge, shift (if they aren't 0), relu (if it is"
                + " so); one blank between tokens, a line end behind");
        for (int how : new int[] {10, 11, 20, 21}) {
            for (int shift : new int[] {0, 1, 9, 10, 15, 16, 17, 31}) {
                Forge x = new Forge();
                x.input(5, 6, 2);
                x.convolution(0, 12, 10, how, shift, 0);
                Check.due("line", Check.networkLine(x, 1), "conv 0 by 1 x 2 outputs 10 at 0" + (how >= 20 ? " step 2" : "")
                        + (how % 10 == 1 ? " edge 1" : "") + (shift % 16 == 0 ? "" : " shift " + shift % 16)
                        + (shift >= 16 ? " relu" : "") + "\n");
            }
        }
        for (int step = 1; step <= 3; step++) {
            Forge x = new Forge();
            x.input(5, 6, 2);
            x.pool(0, 31, step);
            Check.due("line", Check.networkLine(x, 1), "pool 0 by 3 x 1" + (step == 1 ? "" : " step " + step) + "\n");
        }
        for (int address : new int[] {1, 9, 10, 99, 100, 999, 1000, 1001, 4090}) {
            Forge x = new Forge();
            x.input(5, 6, 2);
            x.convolution(0, 11, 1, 10, 0, address);
            Check.due("line", Check.networkLine(x, 1), "conv 0 by 1 x 1 outputs 1 at " + address + "\n");
        }
    }

    private static void becomesTheNetwork() {
        Check.sentence("network: The text becomes the network: NONE");
        Forge x = new Forge();
        x.side(4);
        x.word(0, 77);
        x.memory(0, 5);
        x.input(9, 9, 9);
        x.pool(0, 33, 3);
        x.place();
        Check.due("network", Check.network(x, "input 2 x 3 x 4\nadd 0 0\npool 1 by 2 x 1"), NONE);
        Check.due("its lines and places", Check.networkAndPlaces(x), "input 2 x 3 x 4\nadd 0 0\npool 1 by 2 x 1\n0 24 48 \n");
        Check.refuses("no more tensors", INDEX, () -> x.form(3, 0));
        Check.due("the program stays", Check.words(x), "77 \n");
        Check.due("the memory stays", x.look(0, 0), 5);
        Check.due("the input alone", Check.network(x, "input 7 x 7 x 7"), NONE);
        Check.due("its lines", Check.networkAndPlaces(x), "input 7 x 7 x 7\n0 \n");
        Check.due("a layer behind", x.pool(0, 11, 1), 1);
        Check.due("where it begins", x.form(1, 3), 343);
        // What the text makes compiles as what the calls make.
        Forge y = new Forge();
        y.side(4);
        y.input(2, 3, 4);
        y.addition(0, 0, 0);
        y.pool(1, 21, 1);
        Check.network(x, "input 2 x 3 x 4\nadd 0 0\npool 1 by 2 x 1");
        Check.due("compile", x.compile(), y.compile());
        Check.due("words", Check.words(x), Check.words(y));
    }

    private static void theNetworkStays() {
        Check.sentence("network: or its fault (the network stays)");
        for (String text : new String[] {"?", "input 2 x 2 x 2\n?", "input 2 x 2 x 2\nadd 0 0\nadd 0 0\nadd 0 0\nadd 0 9", ""}) {
            Forge x = new Forge();
            x.input(5, 5, 2);
            x.pool(0, 22, 1);
            x.addition(1, 1, 3);
            x.pool(2, 11, 1);
            x.place();
            x.compile();
            x.run();
            Check.write(x, text);
            String before = Check.all(x);
            Check.due("network", x.network(), text.isEmpty() ? 1 : text.split("\n", -1).length - 1);
            Check.due("all behind it", Check.all(x), before);
            Check.due("the next layer", x.pool(3, 11, 1), 4);
        }
        // So does one that texts made, once and more often.
        Forge y = new Forge();
        for (String text : new String[] {"input 2 x 3 x 4\nadd 0 0", "input 4 x 3 x 2\nadd 0 0\npool 1 by 2 x 2"}) {
            Check.due("network", Check.network(y, text), NONE);
            for (String wrong : new String[] {"input 1 x 1 x 1\nadd 0 0\nadd 1 1\n?", "input 5 x 5 x 5\n?"}) {
                Check.write(y, wrong);
                String before = Check.all(y);
                Check.due("network", y.network(), wrong.split("\n").length - 1);
                Check.due("all behind it", Check.all(y), before);
            }
        }
    }

    private static void networkSigns() {
        Check.sentence("networkSign: Sign k of a line of the network's listing (0 the input, 1, .. the layers); NONE behind its"
                + " line's end");
        Forge x = new Forge();
        x.input(63, 3, 10);
        x.convolution(0, 33, 1, 21, 31, 2500);
        String[] due = {"input 63 x 3 x 10\n", "conv 0 by 3 x 3 outputs 1 at 2500 step 2 edge 1 shift 15 relu\n"};
        for (int line = 0; line < 2; line++) {
            for (int k = 0; k < due[line].length(); k++) {
                Check.due("networkSign(" + line + ", " + k + ")", x.networkSign(line, k), due[line].charAt(k));
            }
            for (int k : new int[] {due[line].length(), due[line].length() + 1, 127, 128, 1500, MAX}) {
                Check.due("networkSign(" + line + ", " + k + ")", x.networkSign(line, k), NONE);
            }
        }
    }

    private static void networkSignRefuses() {
        Check.sentence("networkSign: IndexOutOfBoundsException if there is no such line, or k is below 0");
        Forge x = new Forge();
        Check.refuses("networkSign(1, 0) of a new object", INDEX, () -> x.networkSign(1, 0));
        x.pool(0, 11, 1);
        for (int line : new int[] {-1, 2, 10, 11, 12, MIN, MAX}) {
            Check.refusesAndKeeps("networkSign(" + line + ", 0)", x, INDEX, () -> x.networkSign(line, 0));
            Check.refuses("networkSign(" + line + ", 1000)", INDEX, () -> x.networkSign(line, 1000));
        }
        for (int k : new int[] {-1, -2, MIN}) {
            Check.refusesAndKeeps("networkSign(0, " + k + ")", x, INDEX, () -> x.networkSign(0, k));
            Check.refuses("networkSign(1, " + k + ")", INDEX, () -> x.networkSign(1, k));
        }
        Check.due("the last line", x.networkSign(1, 0), 'p');
        x.side(2);
        Check.refuses("a line of a layer that is gone", INDEX, () -> x.networkSign(1, 0));
    }

    private static void places(Forge x, int... due) {
        for (int k = 0; k < due.length; k++) {
            Check.due("tensor " + k + " begins", x.form(k, 3), due[k]);
        }
    }

    private static Forge placed(String text, int end) {
        Forge x = new Forge();
        Check.due("network of " + text, Check.network(x, text), NONE);
        Check.due("place of " + text, x.place(), end);
        return x;
    }

    private static void leastPlace() {
        Check.sentence("PLACES ANEW: the input at 0; each layer's tensor, in order, at the least place at which it meets none of"
                + " the tensors ahead of it that are NEEDED");
        places(placed("input 2 x 2 x 5", 20), 0);
        places(placed("input 2 x 2 x 5\nadd 0 0", 40), 0, 20);
        places(placed("input 2 x 2 x 5\nadd 0 0\nadd 1 1", 40), 0, 20, 0);
        places(placed("input 2 x 2 x 5\nadd 0 0\nadd 1 1\nadd 2 2\nadd 3 3", 40), 0, 20, 0, 20, 0);
        // Layers that are gone, or were refused, need nothing.
        Forge gone = new Forge();
        gone.input(2, 2, 5);
        gone.addition(0, 0, 0);
        gone.addition(1, 1, 0);
        gone.addition(2, 0, 0);
        gone.addition(0, 1, 0);
        gone.input(2, 2, 5);
        gone.addition(0, 0, 0);
        gone.addition(1, 1, 0);
        Check.refuses("a layer of the input", IllegalArgumentException.class, () -> gone.pool(0, 11, 4));
        Check.due("place", gone.place(), 40);
        places(gone, 0, 20, 0);
        // And one that takes nothing more isn't kept for them.
        gone.input(2, 2, 5);
        gone.addition(0, 0, 0);
        gone.addition(0, 0, 0);
        Check.refuses("a layer of the first", IllegalArgumentException.class, () -> gone.addition(1, 1, 32));
        gone.addition(2, 2, 0);
        Check.refuses("a layer of the first", IllegalArgumentException.class, () -> gone.addition(1, 1, 32));
        Check.due("place", gone.place(), 60);
        places(gone, 0, 20, 40, 0);
        // Twice gives the same.
        Forge x = placed("input 2 x 2 x 5\nadd 0 0\nadd 1 1\nadd 2 2", 40);
        Check.due("again", x.place(), 40);
        places(x, 0, 20, 0, 20);
    }

    private static void neededByThisLayer() {
        Check.sentence("NEEDED: that this layer .. takes");
        // A tensor doesn't take the place of what its own layer takes, of both that an addition takes.
        places(placed("input 2 x 2 x 5\nadd 0 0\nadd 0 1", 60), 0, 20, 40);
        places(placed("input 2 x 2 x 5\nadd 0 0\nadd 1 0", 60), 0, 20, 40);
        places(placed("input 2 x 2 x 5\npool 0 by 2 x 2", 25), 0, 20);
        places(placed("input 2 x 2 x 5\nadd 0 0\nadd 0 1\nadd 2 2", 60), 0, 20, 40, 0);
    }

    private static void neededByALaterLayer() {
        Check.sentence("NEEDED: .. or a later one takes");
        places(placed("input 2 x 2 x 5\nadd 0 0\nadd 1 1\nadd 2 0", 60), 0, 20, 40, 20);
        places(placed("input 2 x 2 x 5\nadd 0 0\nadd 1 1\nadd 2 0\nadd 3 3", 60), 0, 20, 40, 20, 0);
        places(placed("input 2 x 2 x 5\nadd 0 0\nadd 1 1\nadd 2 1\nadd 3 3", 60), 0, 20, 0, 40, 0);
        places(placed("input 2 x 2 x 5\nadd 0 0\nadd 1 1\nadd 2 2\nadd 3 1", 60), 0, 20, 0, 40, 0);
        places(placed("input 2 x 2 x 5\nadd 0 0\nadd 1 1\nadd 2 1\nadd 3 0", 80), 0, 20, 40, 60, 20);
    }

    private static void takenByNone() {
        Check.sentence("or that no layer takes at all");
        // Tensor 1 is taken by none and stays; tensor 3 is the last, and so taken by none.
        places(placed("input 2 x 2 x 5\nadd 0 0\nadd 0 0\nadd 2 2", 60), 0, 20, 40, 0);
        places(placed("input 2 x 2 x 5\nadd 0 0\nadd 0 0\nadd 2 2\nadd 3 3", 60), 0, 20, 40, 0, 40);
        // Two that are taken by none.
        places(placed("input 2 x 2 x 5\nadd 0 0\nadd 0 0\nadd 0 0", 80), 0, 20, 40, 60);
    }

    private static void exactGaps() {
        Check.sentence("at the least place at which it meets none: gaps that it just fits, or doesn't");
        // Tensor 0 (12 bytes) is free from layer 2 on; tensor 2 has as many.
        places(placed("input 3 x 4 x 1\nadd 0 0\nadd 1 1", 24), 0, 12, 0);
        // Tensor 1 (12 bytes) at 12 and tensor 2 (6 bytes) at 0: tensor 3 (6 bytes) just fits between, at 6.
        places(placed("input 3 x 4 x 1\nadd 0 0\npool 1 by 2 x 2 as a\npool 1 by 2 x 2\nadd a 3\nadd 1 1", 30),
                0, 12, 0, 6, 24, 0);
        // Tensor 2 (8 bytes) at 0: tensor 3 (6 bytes) doesn't fit in the 4 bytes that are left ahead of tensor 1. At last
        // tensor 1 isn't needed: there is a gap from 8 on.
        places(placed("input 3 x 4 x 1\nadd 0 0\npool 1 by 2 x 1\npool 1 by 2 x 2\nadd 1 1\npool 2 by 1 x 1", 42),
                0, 12, 0, 24, 30, 8);
        // Of 4 bytes it fits.
        places(placed("input 3 x 4 x 1\nadd 0 0\npool 1 by 2 x 1\npool 1 by 2 x 3\nadd 1 1", 36), 0, 12, 0, 8, 24);
    }

    private static void programAfterPlace() {
        Check.sentence("(What a program leaves there then is what reckon() does, too; tensors that aren't needed may be gone.)");
        Forge x = new Forge();
        Check.network(x, "input 3 x 3 x 2\nconv 0 by 2 x 2 outputs 3 at 2100 edge 1 shift 2\nadd 1 1 shift 1 relu\n"
                + "pool 2 by 2 x 2\nconv 3 by 1 x 1 outputs 2 at 2200\nadd 4 4");
        x.place();
        for (int k = 0; k < 20; k += 4) {
            x.memory(k, 0x05FD0307 + k * 0x01010101);
        }
        for (int k = 0; k < 60; k += 4) {
            x.memory(2112 + k, 0x01FF0203 ^ k);
            x.memory(2208 + k, 0x0102FF01 ^ k);
        }
        Forge y = x.twin();
        x.reckon();
        y.compile();
        Check.due("run", y.run(), 1);
        StringBuilder one = new StringBuilder();
        StringBuilder two = new StringBuilder();
        Check.looks(x, 0, one);
        Check.looks(y, 0, two);
        Check.due("memory", two.toString(), one.toString());
        // A tensor took the place of the input, which isn't needed any more.
        places(x, 0, 18, 66, 0, 27, 0);
    }

    private static void laterLayers() {
        Check.sentence("A layer that comes later begins behind the end of all");
        Forge x = placed("input 2 x 2 x 5\nadd 0 0\nadd 1 1\npool 2 by 2 x 2", 40);
        places(x, 0, 20, 0, 20);
        Check.due("a later one", x.pool(3, 11, 1), 4);
        Check.due("begins", x.form(4, 3), 40);
        Check.due("another", x.addition(0, 0, 0), 5);
        Check.due("begins", x.form(5, 3), 45);
        // The end of all is that of a tensor in the midst.
        Forge y = placed("input 2 x 2 x 5\nadd 0 0\nadd 1 1\nadd 2 2\npool 3 by 2 x 2", 40);
        places(y, 0, 20, 0, 20, 0);
        y.pool(4, 11, 1);
        Check.due("begins", y.form(5, 3), 40);
    }

    private static void greatestEnd() {
        Check.sentence("place: Gives all tensors their places anew: the greatest end of one");
        Check.due("of the input alone", placed("input 32 x 32 x 2", 2048).form(0, 3), 0);
        placed("input 1 x 1 x 1", 1);
        // The greatest end is that of a tensor that isn't needed at last.
        placed("input 4 x 4 x 1\nadd 0 0\npool 1 by 3 x 3\npool 2 by 2 x 2", 32);
        // The greatest end is the input's.
        placed("input 4 x 4 x 4\npool 0 by 3 x 3 step 3\nadd 1 1", 68);
        Forge x = placed("input 32 x 32 x 1\nadd 0 0", 2048);
        places(x, 0, 1024);
    }

    /** Copies of the input and of the copy; then, behind place(), pools of the input and of the copy. */
    private static Forge grown(int height, int width, int kernel, int step) {
        Forge x = new Forge();
        x.input(height, width, 1);
        x.pool(0, 11, 1);
        x.pool(1, 11, 1);
        Check.due("place", x.place(), 2 * height * width);
        x.pool(0, kernel, step);
        x.pool(1, kernel, step);
        return x;
    }

    private static void placeBeyond() {
        Check.sentence("place: UnsupportedOperationException if one would end beyond 2048");
        Check.due("up to 2048", grown(16, 32, 11, 1).place(), 2048);
        for (int[] row : new int[][] {{9, 59, 23, 1}, {11, 57, 12, 2}, {10, 63, 11, 2}}) {
            Forge x = grown(row[0], row[1], row[2], row[3]);
            Check.refusesAndKeeps("up to 2049 or 2050", x, UNSUPPORTED, () -> x.place());
            places(x, 0, row[0] * row[1], 0, 2 * row[0] * row[1]);
        }
        Forge x = grown(17, 40, 33, 3);
        Check.refusesAndKeeps("far beyond", x, UNSUPPORTED, () -> x.place());
    }
}
