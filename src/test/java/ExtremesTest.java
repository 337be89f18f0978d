import java.util.Arrays;

/** Every call with every mix of numbers at, beside and far beyond the bounds: it answers as the second reading does, and throws nothing. */
public final class ExtremesTest {
    private static final int LOW = Integer.MIN_VALUE, HIGH = Integer.MAX_VALUE;
    private static final int[] MANY = {
        LOW, LOW + 1, -37, -13, -2, -1, 0, 1, 2, 3, 4, 5, 8, 9, 10, 11, 12, 13, 19, 20, 30, 35, 36, 37, 99, 100, 200, 201, 500, 501, HIGH - 1, HIGH};
    private static final int[] SOME = {LOW, -2, -1, 0, 1, 2, 3, 4, 5, 9, 10, 19, 20, 36, 37, 200, 201, HIGH};
    private static final int[] FEW = {LOW, -1, 0, 1, 2, 3, 4, 6, 7, 256, HIGH};
    private static final String[][] NAMES = {
        {"first"}, {"habit", "holds", "loop", "tap", "ticks", "count", "round", "evens", "image", "restore", "drop"},
        {"ring", "evenly", "told", "looped", "knot", "after", "calmed", "taps"}, {"car", "set", "board", "cost", "paces", "sheet"}, {"item"}, {"copy"}};
    private static final int CALLS = 400;

    private KnotRing x;
    private PlainModel y;
    private int left = 0;

    public static void main(String[] args) {
        ExtremesTest test = new ExtremesTest();
        for (int arity = 0; arity < NAMES.length; arity++) {
            for (String name : NAMES[arity]) {
                test.mixes(name, new int[arity], 0, arity < 3 ? MANY : arity < 4 ? SOME : FEW);
            }
        }
        for (long w : new long[] {0, -1, 0x2a2a2a2a2a2a2a2aL, 0x2020202020202020L, Long.MIN_VALUE, Long.MAX_VALUE, 0x7f2a, 0x2a7f}) {
            for (int n : MANY) {
                test.type(w, n);
            }
        }
        Due.end();
    }

    private void mixes(String name, int[] args, int at, int[] numbers) {
        if (at == args.length) {
            call(name, args);
            return;
        }
        for (int v : numbers) {
            args[at] = v;
            mixes(name, args, at + 1, numbers);
        }
    }

    private void begin() {
        if (left > 0) {
            left--;
            return;
        }
        left = CALLS;
        x = new KnotRing();
        y = new PlainModel();
        for (Call call : Rows.calls(Rows.RICH)) {
            call.on(x);
            y.call(call);
        }
    }

    private void call(String name, int[] args) {
        begin();
        Call call = new Call(name, Arrays.stream(args).asLongStream().toArray());
        Due.is(call.toString(), call.on(x), y.call(call));
    }

    private void type(long w, int n) {
        begin();
        Call call = new Call("type", new long[] {w, n});
        Due.is(call.toString(), call.on(x), n < 1 || n > 8 ? KnotRing.BAD : y.call(call));
    }
}
