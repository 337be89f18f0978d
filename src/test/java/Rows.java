import java.util.ArrayList;
import java.util.List;
import java.util.Map;

/**
 * Words of the document, and rows of calls on a new object with the answers that these words ask for.
 * A row is "name arguments = answer"; without an answer, the call must be taken (0 or more). More forms:
 * "text 'abc'" types a text, "read 1 'abc'" types it and makes it a habit, "20x ticks 200" makes a call so often.
 */
final class Rows {
    private static final int CALLS = 512;
    private static final List<String> LOOKS = List.of(
        "told", "holds", "looped", "count", "knot", "first", "cost", "after", "calmed", "round", "evens");
    private static final Map<String, Long> NAMES = Map.of("BAD", -1L, "NOT", -2L, "FULL", -3L, "NONE", -4L,
        "NULL", -11L, "CAST", -12L, "INDEX", -13L, "SIZE", -14L, "LOW", (long) Integer.MIN_VALUE, "HIGH", (long) Integer.MAX_VALUE);

    /** A ring on which something of every kind is there, for rows to go on from. */
    static final String[] RICH = {
        "ring 0 20", "ring 1 6", "read 0 'g<3:-1;*:+1'", "read 1 'o>4:+0c;*:+1'", "read 2 '*:=2'", "board 3 5 2", "board 18 1 3", "loop 0",
        "loop 10", "car 0 0 2", "car 0 4 1", "car 1 8 3", "car 1 19 0", "car 0 9 1", "set 0 1 2", "set 1 0 1", "set 2 1 3", "set 4 0 2",
        "image 1", "ticks 2", "tap 2", "text '*:=3'", "sheet 0 0 6", "item 0 0 2 1", "sheet 1 1 6", "item 1 1 0 3", "item 1 1 5 9",
        "sheet 2 2 6", "item 2 2 1 7", "item 2 2 5 -1"};

    private record Row(String text, List<Call> calls, Long due) {
        /** A call that only looks, or is refused. A FAULT of a tape that was there ahead of the row empties it. */
        boolean changesNothing() {
            String name = text.split(" ")[0];
            boolean emptiesTape = name.equals("habit") && due != null && due <= -20;
            return LOOKS.contains(name) || due != null && due < 0 && !emptiesTape;
        }
    }

    private Rows() {
    }

    static void says(String section, String words, String... rows) {
        Document.quote(section, words);
        KnotRing x = new KnotRing();
        List<Call> before = new ArrayList<>();
        for (String text : rows) {
            Row row = row(text);
            String where = section + " '" + words + "': " + text;
            answer(x, row, where);
            if (row.changesNothing()) {
                changesNothing(before, row, where);
            }
            before.addAll(row.calls);
        }
        Due.holds(words + ": at most " + CALLS + " calls", before.size() <= CALLS);
    }

    /** Two runs of calls that lead to the same: nothing tells the objects apart. */
    static void alike(String section, String words, String[] one, String[] two) {
        says(section, words, one);
        says(section, words, two);
        List<Call> first = calls(one);
        List<Call> second = calls(two);
        compare(first, second, section + " '" + words + "': " + two[two.length - 1]);
    }

    static List<Call> calls(String[] rows) {
        List<Call> all = new ArrayList<>();
        for (String text : rows) {
            all.addAll(row(text).calls);
        }
        return all;
    }

    private static void answer(KnotRing x, Row row, String where) {
        int got = 0;
        for (Call call : row.calls) {
            got = call.on(x);
        }
        if (row.due == null) {
            Due.holds(where + " is taken, it answered " + got, got >= 0);
        } else {
            Due.is(where, got, row.due);
        }
    }

    /** Of two objects made alike, one takes the row, the other does not: nothing tells them apart. */
    private static void changesNothing(List<Call> before, Row row, String where) {
        List<Call> with = new ArrayList<>(before);
        with.addAll(row.calls);
        compare(before, with, where + " changes nothing");
    }

    private static void compare(List<Call> one, List<Call> two, String where) {
        int left = CALLS - Math.max(one.size(), two.size());
        List<String> due = Probe.of(made(one), left);
        List<String> seen = Probe.of(made(two), left);
        String unlike = "";
        for (int k = Math.min(seen.size(), due.size()) - 1; k >= 0; k--) {
            unlike = seen.get(k).equals(due.get(k)) ? unlike : seen.get(k) + ", due is what " + due.get(k);
        }
        Due.holds(where + ", but then " + unlike, seen.equals(due));
    }

    private static KnotRing made(List<Call> calls) {
        KnotRing x = new KnotRing();
        calls.forEach(call -> call.on(x));
        return x;
    }

    private static Row row(String text) {
        int from = text.indexOf('\'');
        int to = text.lastIndexOf('\'');
        String typed = from < 0 ? "" : text.substring(from + 1, to);
        String[] halves = (from < 0 ? text : text.substring(0, from) + text.substring(to + 1)).split(" =");
        String[] words = halves[0].trim().split(" +");
        int times = words[0].matches("\\d+x") ? Integer.parseInt(words[0].replace("x", "")) : 1;
        int first = words[0].matches("\\d+x") ? 1 : 0;
        long[] args = new long[words.length - first - 1];
        for (int k = 0; k < args.length; k++) {
            args[k] = number(words[first + 1 + k]);
        }
        List<Call> calls = new ArrayList<>();
        for (int k = 0; k < times; k++) {
            addCalls(words[first], args, typed, calls);
        }
        return new Row(text, calls, halves.length > 1 ? number(halves[1].trim()) : null);
    }

    private static void addCalls(String name, long[] args, String typed, List<Call> calls) {
        for (int i = 0; i < typed.length(); i += 8) {
            String piece = typed.substring(i, Math.min(typed.length(), i + 8));
            calls.add(new Call("type", new long[] {Due.packed(piece), piece.length()}));
        }
        if (!name.equals("text")) {
            calls.add(new Call(name.equals("read") ? "habit" : name, args));
        }
    }

    private static long number(String word) {
        if (NAMES.containsKey(word)) {
            return NAMES.get(word);
        }
        return word.startsWith("0x") ? Long.parseUnsignedLong(word.substring(2), 16) : Long.parseLong(word);
    }

    static String[] join(String[] one, String... two) {
        List<String> all = new ArrayList<>(List.of(one));
        all.addAll(List.of(two));
        return all.toArray(new String[0]);
    }
}
