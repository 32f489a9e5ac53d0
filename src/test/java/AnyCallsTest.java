import java.lang.reflect.InvocationTargetException;
import java.lang.reflect.Method;
import java.util.ArrayList;
import java.util.Arrays;
import java.util.Comparator;
import java.util.Random;
import java.util.Set;

/** All promises: any calls in any order throw nothing but what the call names, and then change nothing. */
public final class AnyCallsTest {
    private static final int[] SOME = {0, 1, 2, 3, 4, 5, 8, 10, 11, 12, 16, 21, 22, 31, 33, 63, 64, 100, 255, 256, 511,
        512, 599, 600, 601, 1500, 2047, 2048, 4092, 4093, 4095, 4096, -1, -2, -11, Integer.MAX_VALUE, Integer.MIN_VALUE};

    private static final String[] TEXTS = {
        "cells at 3 by 4 x 2 step 2 push behind\nweights by 2 x 2 a 7 push behind\nmultiply by 4 x 2 step 7 n 4 pop before\n"
            + "narrow by 4 x 2 n 3 push behind\nstore at 90 by 4 x 2 step 2 pop before",
        "input 5 x 6 x 2 as in\nconv in by 2 x 2 outputs 3 at 2100 edge 1\npool 1 by 2 x 2\nadd 2 2 shift 1 relu",
        "wait n 1 pop before", "clear by 2 x 2\ncombine by 1 x 1", "input 9 x 9 x 9\npool 0 by 3 x 3 step 3\nadd 1 0",
        "# nothing\n", "wait ?"};

    public static void main(String[] args) throws Exception {
        Method[] calls = TensorForge.class.getDeclaredMethods();
        ArrayList<Method> open = new ArrayList<>();
        for (Method call : calls) {
            if (java.lang.reflect.Modifier.isPublic(call.getModifiers())) {
                open.add(call);
            }
        }
        open.sort(Comparator.comparing(Method::getName));
        Random random = new Random(11);
        int thrown = 0;
        for (int turn = 0; turn < 400; turn++) {
            Forge x = new Forge();
            while (x.changes() < 300) {
                if (random.nextInt(20) == 0) {
                    Check.write(x, TEXTS[random.nextInt(TEXTS.length)]);
                    continue;
                }
                Method call = open.get(random.nextInt(open.size()));
                Object[] given = given(random, call, x.length());
                boolean look = random.nextInt(40) == 0;
                String before = look ? Check.all(x) : "";
                try {
                    Forge.class.getDeclaredMethod(call.getName(), call.getParameterTypes()).invoke(x, given);
                } catch (InvocationTargetException e) {
                    thrown++;
                    Throwable cause = e.getCause();
                    String told = call.getName() + Arrays.toString(given);
                    Check.holds(told + " may throw " + cause,
                            Arrays.asList(call.getExceptionTypes()).contains(cause.getClass()));
                    Check.holds(told + " throws " + cause + " by a throw statement of its own",
                            cause.getStackTrace()[0].getClassName().startsWith("TensorForge"));
                    if (look) {
                        Check.due("all behind " + told, Check.all(x), before);
                    }
                }
            }
        }
        Check.holds("some calls threw", thrown > 10000);
        for (int turn = 0; turn < 1500; turn++) {
            askingChangesNothing(open, random);
        }
        Check.finish();
    }

    private static final Set<String> ASKING = Set.of("look", "wordOf", "length", "field", "illegal", "listing", "stopped",
            "instruction", "form", "networkSign", "under", "waits");

    private static String answer(TensorForge x, Method call, Object[] given) throws IllegalAccessException {
        try {
            return String.valueOf(call.invoke(x, given));
        } catch (InvocationTargetException e) {
            return e.getCause().getClass().getName();
        }
    }

    /** Two objects with the same calls, but that one is asked more in between, answer the same. */
    private static void askingChangesNothing(ArrayList<Method> open, Random random) throws IllegalAccessException {
        TensorForge one = new TensorForge();
        TensorForge other = new TensorForge();
        String text = TEXTS[random.nextInt(TEXTS.length)];
        int put = 0;
        for (int k = 0; k < 500; k++) {
            Method call = open.get(random.nextInt(open.size()));
            boolean asks = ASKING.contains(call.getName());
            Object[] given = given(random, call, call.getName().equals("word") ? one.length() : 0);
            if (call.getName().equals("word")) {
                k++;
            }
            if (call.getName().equals("put") && random.nextInt(8) > 0) {
                // The text goes on where it was, and begins again behind its end.
                given[0] = put < text.length() ? (int) text.charAt(put) : (int) '\n';
                put = put < text.length() ? put + 1 : 0;
            }
            String got = answer(one, call, given);
            if (!asks || k > 350) {
                Check.due(call.getName() + Arrays.toString(given), answer(other, call, given), got);
            }
        }
    }

    private static Object[] given(Random random, Method call, int length) {
        Class<?>[] types = call.getParameterTypes();
        Object[] given = new Object[types.length];
        for (int k = 0; k < types.length; k++) {
            if (types[k] == long.class) {
                given[k] = random.nextBoolean() ? random.nextLong()
                        : 3L | (long) (1 + random.nextInt(5)) << 20 | 1L << 26 | (long) random.nextInt(600) << 31;
            } else {
                int some = SOME[random.nextInt(SOME.length)];
                given[k] = random.nextInt(3) == 0 ? random.nextInt(12) : random.nextInt(30) == 0 ? random.nextInt() : some;
            }
        }
        // So that these calls are right more often than numbers of any sort would be.
        String name = call.getName();
        if (name.equals("convolution") && random.nextBoolean()) {
            return new Object[] {random.nextInt(3), 11 + random.nextInt(3), 1 + random.nextInt(4),
                10 * (1 + random.nextInt(2)) + random.nextInt(2), random.nextInt(32), 2048 + random.nextInt(1000)};
        }
        if (name.equals("pool") && random.nextBoolean()) {
            return new Object[] {random.nextInt(4), 11 + 10 * random.nextInt(2), 1 + random.nextInt(3)};
        }
        if (name.equals("word") && random.nextBoolean()) {
            given[0] = length;
        }
        return given;
    }
}
