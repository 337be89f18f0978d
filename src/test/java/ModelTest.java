import java.util.Arrays;
import java.util.Random;

/** Runs of calls at random, always the same ones, on the class and on the second reading of the document. */
public final class ModelTest {
    private static final int RUNS = 600, CALLS = 500;
    private static final String[] NAMES = {
        "ring", "car", "evenly", "set", "told", "habit", "holds", "board", "loop", "looped", "tap", "ticks", "count", "knot",
        "first", "cost", "after", "calmed", "round", "evens", "image", "restore", "paces", "taps", "sheet", "drop", "item", "copy"};
    /** How many arguments, and for each the greatest that is sound. */
    private static final int[][] MOST = {
        {1, 9}, {1, 29, 9}, {12, 9}, {11, 1, 3}, {11, 7}, {2}, {11}, {29, 29, 9}, {29}, {3, 1}, {11}, {12}, {9}, {3, 1},
        {}, {11, 25, 11}, {11, 25}, {11, 14}, {90}, {90}, {1}, {1}, {3, 2, 12}, {3, 12}, {3, 2, 36}, {3}, {3, 2, 20, 9}, {3, 9, 3, 9, 9}};
    private static final String[] KNOWN = {
        "g>3:+1;g<2:-2", "g<3&o>4:+0c;v<4:+1", "g<2:=0;d<0:-1;g>3:+1", "*:+1", "g<4:-1c;*:+1", "*:=3", "o>5&!v>2|d<0:+2c;g<3:-1"};

    private final Random random;
    private KnotRing x;
    private PlainModel y;
    private int[] seen;
    private StringBuilder told;

    private ModelTest(long seed) {
        random = new Random(seed);
    }

    public static void main(String[] args) {
        int[] answers = new int[NAMES.length];
        for (int run = 0; run < RUNS && Due.wrong() == 0; run++) {
            ModelTest test = new ModelTest(run);
            test.seen = answers;
            test.run();
        }
        for (int k = 0; k < NAMES.length; k++) {
            Due.holds(NAMES[k] + " was answered by 0 or more at times", answers[k] > 0);
        }
        Due.end();
    }

    private void run() {
        x = new KnotRing();
        y = new PlainModel();
        told = new StringBuilder();
        if (random.nextInt(3) > 0) {
            call("ring", new int[] {0, 12 + random.nextInt(random.nextBoolean() ? 20 : 88)});
        }
        call("evenly", new int[] {1 + random.nextInt(9), random.nextInt(5)});
        for (int k = 0; k < CALLS && Due.wrong() == 0; k++) {
            step();
        }
    }

    private void step() {
        int pick = random.nextInt(100);
        if (pick < 6) {
            type(random.nextInt(3) > 0 ? KNOWN[random.nextInt(KNOWN.length)] : text());
            call("habit", new int[] {random.nextInt(16) == 0 ? 3 : random.nextInt(3)});
        } else if (pick < 14) {
            call("ticks", new int[] {1 + random.nextInt(4)});
        } else if (pick < 45) {
            call(random.nextInt(4) == 0 ? "holds" : "told", new int[] {random.nextInt(12), random.nextInt(8)});
        } else {
            int which = random.nextInt(NAMES.length);
            if (rare(NAMES[which]) && random.nextInt(6) > 0) {
                return;
            }
            call(NAMES[which], arguments(which));
        }
    }

    private static boolean rare(String name) {
        return name.equals("evenly") || name.equals("board") || name.equals("ring") || name.equals("calmed")
            || name.equals("restore") || name.equals("loop");
    }

    private int[] arguments(int which) {
        int[] most = MOST[which];
        int[] a = new int[most.length];
        for (int k = 0; k < a.length; k++) {
            int odd = random.nextInt(60);
            a[k] = odd == 0 ? -1 : odd == 1 ? most[k] + 1 : odd == 2 ? random.nextInt() : random.nextInt(most[k] + 1);
        }
        if (NAMES[which].equals("cost") && random.nextBoolean()) {
            a[2] = -1;
        }
        if (NAMES[which].equals("ticks") || NAMES[which].equals("round")) {
            a[0] = a[0] == 0 ? random.nextInt(2) : a[0];
        }
        return a;
    }

    private void call(String name, int[] a) {
        Call call = new Call(name, Arrays.stream(a).asLongStream().toArray());
        int got = call.on(x);
        StringBuilder row = new StringBuilder(name);
        for (int v : a) {
            row.append(' ').append(v);
        }
        told.append(row).append(" -> ").append(got).append('\n');
        int want = y.call(call);
        for (int k = 0; k < NAMES.length; k++) {
            seen[k] += NAMES[k].equals(name) && got >= 0 ? 1 : 0;
        }
        Due.is(row.toString(), got, want);
        if (got != want) {
            System.out.println(told);
        }
    }

    private void type(String text) {
        for (int i = 0; i < text.length();) {
            int n = Math.min(text.length() - i, 1 + random.nextInt(8));
            String piece = text.substring(i, i + n);
            long above = n < 8 ? random.nextLong() << 8 * n : 0;
            int got = x.type(above | Due.packed(piece), n);
            told.append("type '").append(piece).append("' -> ").append(got).append('\n');
            Due.is("type '" + piece + "'", got, y.type(piece));
            i += n;
        }
    }

    /** A text by the grammar, sometimes with a byte changed, put in or taken out. */
    private String text() {
        StringBuilder s = new StringBuilder();
        int clauses = 1 + random.nextInt(random.nextInt(8) == 0 ? 7 : 3);
        for (int k = 0; k < clauses; k++) {
            s.append(k > 0 ? ";" : "").append(test(0)).append(':').append("+-=".charAt(random.nextInt(3)));
            s.append(random.nextInt(10)).append(random.nextInt(3) == 0 ? "c" : "");
        }
        if (random.nextInt(3) == 0) {
            s.insert(random.nextInt(s.length()), ' ');
        }
        if (random.nextInt(3) == 0) {
            String bytes = "gdov<>=-+*()!&|:;c0123456789 xz~";
            int at = random.nextInt(s.length());
            char b = bytes.charAt(random.nextInt(bytes.length()));
            switch (random.nextInt(3)) {
                case 0: s.setCharAt(at, b); break;
                case 1: s.insert(at, b); break;
                default: s.deleteCharAt(at); break;
            }
        }
        return s.length() > 100 ? s.substring(0, 100) : s.toString();
    }

    private String test(int open) {
        StringBuilder s = new StringBuilder(claim(open));
        while (random.nextInt(3) == 0) {
            s.append("&|".charAt(random.nextInt(2))).append(claim(open));
        }
        return s.toString();
    }

    private String claim(int open) {
        String not = random.nextInt(4) == 0 ? "!" : "";
        int kind = random.nextInt(10);
        if (kind == 0) {
            return not + "*";
        }
        if (kind < 3 && open < 5) {
            return not + "(" + test(open + 1) + ")";
        }
        String minus = random.nextInt(4) == 0 ? "-" : "";
        return not + "gdov".charAt(random.nextInt(4)) + "<>=".charAt(random.nextInt(3)) + minus + random.nextInt(random.nextInt(4) == 0 ? 30 : 7);
    }
}
