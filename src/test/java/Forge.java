import java.util.ArrayList;
import java.util.function.ToLongFunction;

/**
 * An object of the class as tests use it. The document tells what an object answers for 512 calls and not for more:
 * ahead of the 513th call there is a new object here, on which the calls that may change something are made again.
 */
final class Forge {
    static final int MOST_CALLS = 512;
    // So that there are calls left for questions behind those that are made again.
    private static final int MOST_CHANGES = 480;

    private final ArrayList<ToLongFunction<TensorForge>> changes = new ArrayList<>();
    private TensorForge object = new TensorForge();
    private int calls = 0;

    /** Another one on which the same has been done. */
    Forge twin() {
        Forge twin = new Forge();
        twin.changes.addAll(changes);
        twin.renew();
        return twin;
    }

    int changes() {
        return changes.size();
    }

    /** Leaves the latest calls out when it is made again: for those that were seen to change nothing. */
    void keep(int many) {
        while (changes.size() > many) {
            changes.remove(changes.size() - 1);
        }
    }

    private void renew() {
        object = new TensorForge();
        calls = 0;
        for (ToLongFunction<TensorForge> change : changes) {
            try {
                change.applyAsLong(object);
            } catch (RuntimeException e) {
                // It threw when it was made first, too; what it left is what the test looks at.
            }
            calls++;
        }
    }

    private long change(ToLongFunction<TensorForge> call) {
        if (changes.size() >= MOST_CHANGES) {
            throw new IllegalCallerException("a test makes too many calls on one object");
        }
        if (calls >= MOST_CALLS) {
            renew();
        }
        changes.add(call);
        calls++;
        return call.applyAsLong(object);
    }

    private long ask(ToLongFunction<TensorForge> call) {
        if (calls >= MOST_CALLS) {
            renew();
        }
        calls++;
        return call.applyAsLong(object);
    }

    void side(int t) {
        change(x -> {
            x.side(t);
            return 0;
        });
    }

    void memory(int at, int v) {
        change(x -> {
            x.memory(at, v);
            return 0;
        });
    }

    int look(int what, int k) {
        return (int) ask(x -> x.look(what, k));
    }

    void word(int i, long v) {
        change(x -> {
            x.word(i, v);
            return 0;
        });
    }

    void cut(int n) {
        change(x -> {
            x.cut(n);
            return 0;
        });
    }

    long wordOf(int i) {
        return ask(x -> x.wordOf(i));
    }

    int length() {
        return (int) ask(x -> x.length());
    }

    int field(long word, int which) {
        return (int) ask(x -> x.field(word, which));
    }

    boolean illegal(long word) {
        return ask(x -> x.illegal(word) ? 1 : 0) == 1;
    }

    int put(int signs) {
        return (int) (signs == 0 ? ask(x -> x.put(0)) : change(x -> x.put(signs)));
    }

    void end(int n) {
        change(x -> {
            x.end(n);
            return 0;
        });
    }

    int assemble() {
        return (int) change(x -> x.assemble());
    }

    int listing(int i, int k) {
        return (int) ask(x -> x.listing(i, k));
    }

    int run() {
        return (int) change(x -> x.run());
    }

    int stopped(int what) {
        return (int) ask(x -> x.stopped(what));
    }

    int instruction(int i, int what) {
        return (int) ask(x -> x.instruction(i, what));
    }

    void input(int height, int width, int channels) {
        change(x -> {
            x.input(height, width, channels);
            return 0;
        });
    }

    int convolution(int tensor, int kernel, int outputs, int how, int shift, int address) {
        return (int) change(x -> x.convolution(tensor, kernel, outputs, how, shift, address));
    }

    int pool(int tensor, int kernel, int step) {
        return (int) change(x -> x.pool(tensor, kernel, step));
    }

    int addition(int one, int two, int shift) {
        return (int) change(x -> x.addition(one, two, shift));
    }

    int form(int tensor, int what) {
        return (int) ask(x -> x.form(tensor, what));
    }

    int compile() {
        return (int) change(x -> x.compile());
    }

    void reckon() {
        change(x -> {
            x.reckon();
            return 0;
        });
    }

    int network() {
        return (int) change(x -> x.network());
    }

    int networkSign(int line, int k) {
        return (int) ask(x -> x.networkSign(line, k));
    }

    int place() {
        return (int) change(x -> x.place());
    }

    int under(int unit, int cycle) {
        return (int) ask(x -> x.under(unit, cycle));
    }

    int waits(int unit, int cycle) {
        return (int) ask(x -> x.waits(unit, cycle));
    }
}
