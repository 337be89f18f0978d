import java.io.IOException;
import java.lang.reflect.Method;
import java.lang.reflect.Modifier;
import java.nio.file.Files;
import java.nio.file.Path;
import java.util.ArrayList;
import java.util.List;
import java.util.TreeSet;
import java.util.regex.Matcher;
import java.util.regex.Pattern;
import java.util.stream.Stream;

/** What README.md shows, against the class: its examples, its answers below 0, and of each call the bounds and refusals. */
public final class ReadmeTest {
    private static final String NEW = "KnotRing x = new KnotRing();";
    private static final Pattern EXAMPLE = Pattern.compile("x\\.(\\w+)\\(([^)]*)\\); +// (-?\\d+|[A-Z]+)(: .+)?");
    private static final Pattern CONSTANT = Pattern.compile("\\| `([A-Z]+)` \\| (-\\d+) \\| .*");
    private static final Pattern ROW = Pattern.compile("\\| `(int (\\w+)\\(.*?\\))` \\| (.+) \\| (.+) \\|");
    private static final Pattern FORM = Pattern.compile("`(\\w+)\\((.*?)\\)`");
    private static final Pattern HABIT = Pattern.compile("HABIT is a text such as `(.*?)`");
    private static final Pattern REFUSAL = Pattern.compile("\\b(BAD|NOT|FULL|NONE|NULL|CAST|INDEX|SIZE|FAULT)\\b");
    private static final int CALLS = 29, COST_BAD = -100001;
    /** On Rows.RICH: five CARS, two LOOPS, 20 cells. Other words stand for numbers of which none is BAD. */
    private static final int CARS = 5, LOOPS = 2, LENGTH = 20;

    /** What may stand at a place of a call: from least to greatest; only where a bound is told, what is beyond it is refused. */
    private record Bounds(long least, long greatest, boolean told, boolean fixed) {
    }

    private final List<String> lines;
    private final TreeSet<String> shown = new TreeSet<>();

    private ReadmeTest(List<String> lines) {
        this.lines = lines;
    }

    public static void main(String[] args) throws IOException {
        ReadmeTest test = new ReadmeTest(Files.readAllLines(Path.of("README.md")));
        test.examples();
        test.constants();
        test.rows();
        test.habit();
        test.tests();
        Due.end();
    }

    private void examples() {
        KnotRing x = null;
        PlainModel y = null;
        boolean inside = false;
        for (String line : lines) {
            if (line.startsWith("```")) {
                inside = line.equals("```java");
                x = null;
            } else if (inside && line.equals(NEW)) {
                x = new KnotRing();
                y = new PlainModel();
            } else if (inside) {
                Due.holds("an example begins with a new object: " + line, x != null);
                example(line, x == null ? new KnotRing() : x, x == null ? new PlainModel() : y);
            }
        }
        Due.is("calls that the examples show: " + shown, shown.size(), CALLS);
    }

    private void example(String line, KnotRing x, PlainModel y) {
        Matcher m = EXAMPLE.matcher(line);
        Due.holds("a call and its answer: " + line, m.matches());
        if (!m.matches()) {
            return;
        }
        Call call = new Call(m.group(1), numbers(m.group(2)));
        Due.is("README: " + line, call.on(x), answer(m.group(3)));
        Due.is("README, on the second reading: " + line, y.call(call), answer(m.group(3)));
        if (call.name().equals("type")) {
            String typed = m.group(4) == null ? "" : m.group(4).replaceAll(": \"(.*)\"", "$1");
            Due.holds("the text that is typed: " + line, typed.length() == call.args()[1] && Due.packed(typed) == call.args()[0]);
        }
        shown.add(call.name());
    }

    private static long[] numbers(String told) {
        String[] words = told.isEmpty() ? new String[0] : told.split(", ");
        return Stream.of(words).mapToLong(w -> Long.decode(w.replace("L", ""))).toArray();
    }

    private static long answer(String told) {
        try {
            return Character.isLetter(told.charAt(0)) ? KnotRing.class.getField(told).getInt(null) : Long.parseLong(told);
        } catch (ReflectiveOperationException e) {
            throw new IllegalStateException("there is no answer " + told, e);
        }
    }

    private void constants() {
        int found = 0;
        for (String line : lines) {
            Matcher m = CONSTANT.matcher(line);
            if (m.matches()) {
                found++;
                Due.is("README: " + line, answer(m.group(1)), Long.parseLong(m.group(2)));
            }
        }
        Due.is("README: answers below 0", found, 8);
    }

    /** The rows stand in the order of the document's promises, of which the first is the new object. */
    private void rows() throws IOException {
        String source = Files.readString(Path.of("src/main/java/KnotRing.java"));
        TreeSet<String> missing = new TreeSet<>();
        for (Method m : KnotRing.class.getDeclaredMethods()) {
            if (Modifier.isPublic(m.getModifiers())) {
                missing.add(m.getName());
            }
        }
        int promise = 1;
        for (String line : lines) {
            Matcher m = ROW.matcher(line);
            if (m.matches()) {
                promise++;
                missing.remove(m.group(2));
                Due.holds("the class has " + m.group(1), source.contains("    public " + m.group(1) + " {"));
                refusals(m.group(2), m.group(4), promise);
                forms(m.group(2), m.group(3));
            }
        }
        Due.holds("README has no row for " + missing, missing.isEmpty());
        Due.is("README: rows of calls", promise - 1, CALLS);
    }

    private static void refusals(String name, String told, int promise) {
        String words = Document.section("P" + promise);
        if (words != null) {
            Due.holds("README: what " + name + " refuses by, in the order of promise " + promise + ": " + told, refusals(told).equals(refusals(words)));
        }
    }

    private static List<String> refusals(String words) {
        List<String> found = new ArrayList<>();
        Matcher m = REFUSAL.matcher(words);
        while (m.find()) {
            found.add(m.group());
        }
        return found;
    }

    private static void forms(String name, String told) {
        List<List<Bounds>> forms = new ArrayList<>();
        Matcher m = FORM.matcher(told);
        while (m.find()) {
            Due.holds("README: a form of " + name + ": " + m.group(), m.group(1).equals(name));
            forms.add(bounds(m.group(2)));
        }
        Due.holds("README: a form of " + name, !forms.isEmpty());
        for (List<Bounds> form : forms) {
            for (int place = 0; place < form.size(); place++) {
                look(name, form, place, isFixedAt(forms, place) ? allAt(forms, place) : form.get(place));
            }
            taken(name, form);
        }
    }

    private static List<Bounds> bounds(String told) {
        List<Bounds> found = new ArrayList<>();
        for (String word : told.isEmpty() ? new String[0] : told.split(", ")) {
            String[] ends = word.split(" \\.\\. ");
            if (ends.length == 2) {
                found.add(new Bounds(Long.parseLong(ends[0]), Long.parseLong(ends[1]), true, false));
            } else if (word.matches("-?\\d+")) {
                found.add(new Bounds(Long.parseLong(word), Long.parseLong(word), true, true));
            } else {
                found.add(boundsOf(word));
            }
        }
        return found;
    }

    private static Bounds boundsOf(String word) {
        switch (word) {
            case "car":
            case "who": return new Bounds(0, CARS - 1, true, false);
            case "loop": return new Bounds(0, LOOPS - 1, true, false);
            case "cell": return new Bounds(0, LENGTH - 1, true, false);
            case "w": return new Bounds(0x2020202020202020L, 0x2A2A2A2A2A2A2A2AL, false, false);
            default: return new Bounds(0, 1, false, false);
        }
    }

    private static boolean isFixedAt(List<List<Bounds>> forms, int place) {
        return forms.stream().anyMatch(f -> f.get(place).fixed);
    }

    private static Bounds allAt(List<List<Bounds>> forms, int place) {
        long least = forms.stream().mapToLong(f -> f.get(place).least).min().getAsLong();
        long greatest = forms.stream().mapToLong(f -> f.get(place).greatest).max().getAsLong();
        return new Bounds(least, greatest, true, true);
    }

    private static void look(String name, List<Bounds> form, int place, Bounds at) {
        if (!at.told) {
            return;
        }
        for (long beyond : new long[] {at.least - 1, at.greatest + 1}) {
            long[] args = form.stream().mapToLong(Bounds::least).toArray();
            args[place] = beyond;
            Due.holds("README: " + new Call(name, args) + " is refused", isBad(new Call(name, args)));
        }
    }

    private static void taken(String name, List<Bounds> form) {
        for (int place = 0; place < Math.max(1, form.size()); place++) {
            long[] least = form.stream().mapToLong(Bounds::least).toArray();
            long[] greatest = least.clone();
            if (place < form.size()) {
                greatest[place] = form.get(place).greatest;
            }
            Due.holds("README: " + new Call(name, least) + " is taken", !isBad(new Call(name, least)));
            Due.holds("README: " + new Call(name, greatest) + " is taken", !isBad(new Call(name, greatest)));
        }
    }

    private static boolean isBad(Call call) {
        KnotRing x = new KnotRing();
        Rows.calls(Rows.RICH).forEach(c -> c.on(x));
        int got = call.on(x);
        return got == KnotRing.BAD || got == KnotRing.SIZE || call.name().equals("cost") && got == COST_BAD;
    }

    /** The text that README gives for a HABIT is one, of so many CLAUSES as it shows. */
    private void habit() {
        int found = 0;
        for (String line : lines) {
            Matcher m = HABIT.matcher(line);
            if (m.find()) {
                found++;
                Due.habit(new KnotRing(), 0, m.group(1), m.group(1).split(";").length);
            }
        }
        Due.is("README: texts of HABITS", found, 1);
    }

    private void tests() throws IOException {
        String readme = String.join("\n", lines);
        try (Stream<Path> files = Files.list(Path.of("src/test/java"))) {
            files.map(f -> f.getFileName().toString()).filter(f -> f.endsWith("Test.java")).forEach(f ->
                Due.holds("README tells of " + f, readme.contains("- `" + f.replace(".java", "") + "`: ")));
        }
        Due.holds("README tells how tests are run", readme.contains("    .ci/run\n"));
    }
}
