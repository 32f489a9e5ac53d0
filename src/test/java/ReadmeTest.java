import java.nio.file.Files;
import java.nio.file.Path;
import java.util.ArrayList;
import java.util.List;

/** What README.md shows of the class's use: each example does what stands there. It runs from the project's folder. */
public final class ReadmeTest {
    public static void main(String[] args) throws Exception {
        String readme = Files.readString(Path.of("README.md"));
        calls();
        callsAreThoseOf(readme);
        texts(readme);
        names(readme);
        Check.finish();
    }

    private static void calls() {
        TensorForge x = new TensorForge();
        x.side(4);
        x.input(6, 6, 1);
        for (int at = 0; at < 36; at += 4) {
            x.memory(at, 0x04030201);
        }
        x.memory(2048, 5);
        x.memory(2052, 0x01010101);
        x.convolution(0, 22, 1, 10, 16, 2048);
        x.pool(1, 22, 2);
        int words = x.compile();
        int why = x.run();
        int cell = x.look(0, x.form(2, 3));
        Check.due("words", words, 105);
        Check.due("why", why, 1);
        // The greatest of four sums of 5 and the four cells of a square: 5 + 1 + 2 + 3 + 4.
        Check.due("cell", cell, 15);
    }

    /** The example's lines stand in calls() above, in a row. */
    private static void callsAreThoseOf(String readme) throws Exception {
        String source = Files.readString(Path.of("src/test/java/ReadmeTest.java"));
        List<String> blocks = blocks(readme, "java");
        Check.due("examples in Java", blocks.size(), 1);
        for (String block : blocks) {
            Check.holds("the example is the test's", plain(source).contains(plain(block)));
        }
    }

    private static String plain(String code) {
        return code.replaceAll("//.*", "").replaceAll("\\s+", " ").trim();
    }

    private static void texts(String readme) {
        List<String> blocks = blocks(readme, "text");
        Check.due("examples of texts", blocks.size(), 2);
        Forge x = new Forge();
        Check.due("the program's fault", Check.assemble(x, blocks.get(0)), TensorForge.NONE);
        Check.due("the program", Check.program(x),
                "cells by 4 x 2 step 2 push behind\ncombine by 4 x 2 pop before\n");
        Check.due("it is done", x.run(), 1);
        Check.due("the network's fault", Check.network(x, blocks.get(1)), TensorForge.NONE);
        Check.due("the network", Check.network(x),
                "input 6 x 6 x 1\nconv 0 by 2 x 2 outputs 1 at 2048 relu\npool 1 by 2 x 2 step 2\n");
    }

    /** Each call of the face is told of. */
    private static void names(String readme) {
        for (java.lang.reflect.Method method : TensorForge.class.getDeclaredMethods()) {
            if (java.lang.reflect.Modifier.isPublic(method.getModifiers())) {
                Check.holds("README.md tells of " + method.getName(), readme.contains("`" + method.getName() + "`"));
            }
        }
    }

    private static List<String> blocks(String readme, String sort) {
        List<String> found = new ArrayList<>();
        String begin = "```" + sort + "\n";
        int at = readme.indexOf(begin);
        while (at >= 0) {
            int from = at + begin.length();
            int to = readme.indexOf("```", from);
            found.add(readme.substring(from, to));
            at = readme.indexOf(begin, to);
        }
        return found;
    }
}
