import java.util.ArrayList;
import java.util.Arrays;
import java.util.Collections;
import java.util.List;
import java.util.TreeMap;

/**
 * A second reading of the document, made otherwise than the class on purpose: cells are walked one by one,
 * every note is kept, texts are judged byte by byte by a table of states and evaluated by cutting them up.
 */
final class PlainModel {
    private static final int BAD = -1, NOT = -2, FULL = -3, NONE = -4, NULL = -11, CAST = -12, INDEX = -13, SIZE = -14;

    private static final class Note {
        final int gap, lead, other;

        Note(int gap, int lead, int other) {
            this.gap = gap;
            this.lead = lead;
            this.other = other;
        }

        @Override
        public String toString() {
            return gap + "/" + lead + "/" + other;
        }
    }

    private static final class Auto {
        int lane, cell, pace, habit, late, went, changes;
        boolean tapped;
        List<Note> notes = new ArrayList<>();

        Auto twin() {
            Auto a = new Auto();
            a.lane = lane;
            a.cell = cell;
            a.pace = pace;
            a.habit = habit;
            a.late = late;
            a.went = went;
            a.changes = changes;
            a.tapped = tapped;
            a.notes = new ArrayList<>(notes);
            return a;
        }
    }

    private static final class World {
        int length = 30, most = 5, now = 0, first = NONE;
        List<Auto> autos = new ArrayList<>();
        String[] habits = {"", "", ""};
        List<int[]> boards = new ArrayList<>();
        List<int[]> loops = new ArrayList<>();

        World twin() {
            World w = new World();
            w.length = length;
            w.most = most;
            w.now = now;
            w.first = first;
            for (Auto a : autos) {
                w.autos.add(a.twin());
            }
            w.habits = habits.clone();
            for (int[] b : boards) {
                w.boards.add(b.clone());
            }
            for (int[] p : loops) {
                w.loops.add(p.clone());
            }
            return w;
        }

        int at(int lane, int cell) {
            int c = (cell % length + length) % length;
            for (int k = 0; k < autos.size(); k++) {
                if (autos.get(k).lane == lane && autos.get(k).cell == c) {
                    return k;
                }
            }
            return -1;
        }

        int ahead(int k) {
            Auto a = autos.get(k);
            int on = 1;
            while (at(a.lane, a.cell + on) < 0) {
                on++;
            }
            return at(a.lane, a.cell + on);
        }

        int gap(int k) {
            Auto a = autos.get(k);
            int free = 0;
            while (at(a.lane, a.cell + 1 + free) < 0) {
                free++;
            }
            return free;
        }

        int other(int k) {
            Auto a = autos.get(k);
            int free = 0;
            while (free < length && at(1 - a.lane, a.cell + free) < 0) {
                free++;
            }
            return free;
        }

        Note look(int k) {
            return new Note(gap(k), autos.get(ahead(k)).pace - autos.get(k).pace, other(k));
        }

        boolean mayChange(int k) {
            Auto a = autos.get(k);
            if (at(1 - a.lane, a.cell) >= 0) {
                return false;
            }
            for (int back = 1; back < length; back++) {
                int it = at(1 - a.lane, a.cell - back);
                if (it >= 0) {
                    return back - 1 >= autos.get(it).pace;
                }
            }
            return true;
        }

        void tick() {
            int n = autos.size();
            int[] wanted = new int[n];
            boolean[] would = new boolean[n];
            for (int k = 0; k < n; k++) {
                autos.get(k).notes.add(look(k));
            }
            for (int k = 0; k < n; k++) {
                Auto a = autos.get(k);
                int seen = a.notes.size() - 1 - a.late;
                int clause = clauseFor(habits[a.habit], a.notes.get(seen < 0 ? 0 : seen), a.pace);
                wanted[k] = a.pace;
                if (clause >= 0) {
                    String act = habits[a.habit].split(";")[clause].split(":")[1];
                    int digit = act.charAt(1) - '0';
                    wanted[k] = act.charAt(0) == '+' ? a.pace + digit : act.charAt(0) == '-' ? a.pace - digit : digit;
                    would[k] = act.endsWith("c");
                }
            }
            for (int k = 0; k < n; k++) {
                if (would[k] && mayChange(k)) {
                    autos.get(k).lane = 1 - autos.get(k).lane;
                    autos.get(k).changes++;
                }
            }
            for (int k = 0; k < n; k++) {
                Auto a = autos.get(k);
                int pace = Math.min(Math.min(wanted[k], most), gap(k));
                for (int[] b : boards) {
                    if (covers(b, a.cell)) {
                        pace = Math.min(pace, b[2]);
                    }
                }
                wanted[k] = a.tapped || pace < 0 ? 0 : pace;
                a.tapped = false;
            }
            for (int k = 0; k < n; k++) {
                autos.get(k).pace = wanted[k];
                goOn(autos.get(k));
            }
            now++;
            endTick();
        }

        boolean covers(int[] b, int cell) {
            for (int c = b[0];; c = (c + 1) % length) {
                if (c == cell) {
                    return true;
                }
                if (c == b[1]) {
                    return false;
                }
            }
        }

        void goOn(Auto a) {
            for (int step = 0; step < a.pace; step++) {
                a.cell = (a.cell + 1) % length;
                a.went++;
                for (int[] p : loops) {
                    if (p[0] == a.cell) {
                        p[1]++;
                        p[2] += a.pace;
                    }
                }
            }
        }

        void endTick() {
            if (even()) {
                first = NONE;
                return;
            }
            for (int k = autos.size() - 1, had = first; k >= 0 && had == NONE; k--) {
                if (autos.get(k).pace == 0) {
                    first = k;
                }
            }
        }

        boolean even() {
            return autos.stream().allMatch(a -> a.pace > 0) && autos.stream().map(a -> a.pace).distinct().count() <= 1;
        }

        String state() {
            StringBuilder s = new StringBuilder();
            for (Auto a : autos) {
                int from = Math.max(0, a.notes.size() - a.late);
                s.append(a.cell).append(',').append(a.lane).append(',').append(a.pace);
                s.append(a.notes.subList(from, a.notes.size())).append(';');
            }
            return s.toString();
        }

        /** Knots by joining each slow car to its slow follower; the key is the head's place. */
        List<int[]> knots() {
            TreeMap<Integer, int[]> found = new TreeMap<>();
            for (int lane = 0; lane < 2; lane++) {
                List<Integer> row = new ArrayList<>();
                for (int cell = length - 1; cell >= 0; cell--) {
                    if (at(lane, cell) >= 0) {
                        row.add(at(lane, cell));
                    }
                }
                addKnots(row, found);
            }
            return new ArrayList<>(found.values());
        }

        private void addKnots(List<Integer> row, TreeMap<Integer, int[]> found) {
            int fast = -1;
            for (int k = 0; k < row.size(); k++) {
                fast = autos.get(row.get(k)).pace > 1 ? k : fast;
            }
            if (fast < 0) {
                if (row.size() >= 2) {
                    put(Collections.min(row), row.size(), found);
                }
                return;
            }
            Collections.rotate(row, row.size() - fast);
            row.add(row.get(0));
            int begun = 0;
            for (int k = 1; k < row.size(); k++) {
                if (autos.get(row.get(k)).pace > 1) {
                    if (k - begun - 1 >= 2) {
                        put(row.get(begun + 1), k - begun - 1, found);
                    }
                    begun = k;
                }
            }
        }

        private void put(int head, int size, TreeMap<Integer, int[]> found) {
            found.put(2 * autos.get(head).cell + autos.get(head).lane, new int[] {head, size});
        }
    }

    private World w = new World();
    private final World[] images = new World[2];
    private String tape = "";
    private final int[][] rows = new int[4][];
    private final int[] kinds = new int[4];

    /** Answers a call by its name, so that the test can make calls at random. */
    int call(String name, int[] a) {
        switch (name) {
            case "ring": return ring(a[0], a[1]);
            case "car": return car(a[0], a[1], a[2]);
            case "evenly": return evenly(a[0], a[1]);
            case "set": return set(a[0], a[1], a[2]);
            case "told": return told(a[0], a[1]);
            case "habit": return habit(a[0]);
            case "holds": return auto(a[0]) ? clauseFor(w.habits[w.autos.get(a[0]).habit], w.look(a[0]), w.autos.get(a[0]).pace) : BAD;
            case "board": return board(a[0], a[1], a[2]);
            case "loop": return loop(a[0]);
            case "looped": return a[0] < 0 || a[0] >= w.loops.size() || a[1] < 0 || a[1] > 1 ? BAD : w.loops.get(a[0])[1 + a[1]];
            case "tap": return tap(a[0]);
            case "ticks": return ticks(a[0]);
            case "count": return count(a[0]);
            case "knot": return knot(a[0], a[1]);
            case "first": return w.first;
            case "cost": return cost(a[0], a[1], a[2]);
            case "after": return auto(a[0]) && a[1] >= 1 && a[1] <= 200 ? tapped(a[0], true, a[1], 0).knots().size() : BAD;
            case "calmed": return calmed(a[0], a[1]);
            case "round": return round(a[0]);
            case "evens": return evens(a[0]);
            case "image": return image(a[0]);
            case "restore": return restore(a[0]);
            case "paces": return paces(a[0], a[1], a[2]);
            case "taps": return taps(a[0], a[1]);
            case "sheet": return sheet(a[0], a[1], a[2]);
            case "drop": return drop(a[0]);
            case "item": return item(a[0], a[1], a[2], a[3]);
            case "copy": return copy(a[0], a[1], a[2], a[3], a[4]);
            default: throw new IllegalArgumentException(name);
        }
    }

    int call(Call call) {
        int[] a = Arrays.stream(call.args()).mapToInt(v -> (int) v).toArray();
        return call.name().equals("type") ? type(textOf(call.args()[0], a[1])) : call(call.name(), a);
    }

    private static String textOf(long w, int n) {
        StringBuilder text = new StringBuilder();
        for (int k = 0; k < n; k++) {
            text.append((char) (w >>> 8 * k & 255));
        }
        return text.reverse().toString();
    }

    int type(String piece) {
        for (char c : piece.toCharArray()) {
            if (c < 32 || c > 126) {
                return BAD;
            }
        }
        if (tape.length() + piece.length() > 100) {
            return FULL;
        }
        tape += piece;
        return tape.length();
    }

    private boolean auto(int k) {
        return k >= 0 && k < w.autos.size();
    }

    private int ring(int what, int v) {
        if (what == 0 && v >= 12 && v <= 99) {
            if (!w.autos.isEmpty() || !w.boards.isEmpty() || !w.loops.isEmpty()) {
                return NOT;
            }
            int was = w.length;
            w.length = v;
            return was;
        }
        if (what == 1 && v >= 1 && v <= 9) {
            int was = w.most;
            w.most = v;
            return was;
        }
        return BAD;
    }

    private int car(int lane, int cell, int pace) {
        if (lane < 0 || lane > 1 || cell < 0 || cell >= w.length || pace < 0 || pace > 9) {
            return BAD;
        }
        if (w.at(lane, cell) >= 0) {
            return NOT;
        }
        if (w.autos.size() == 12) {
            return FULL;
        }
        Auto a = new Auto();
        a.lane = lane;
        a.cell = cell;
        a.pace = pace;
        w.autos.add(a);
        return w.autos.size() - 1;
    }

    private int evenly(int n, int pace) {
        if (n < 1 || n > 12 || pace < 0 || pace > 9) {
            return BAD;
        }
        w.autos.clear();
        w.first = NONE;
        for (int i = 0; i < n; i++) {
            car(0, i * w.length / n, pace);
        }
        return n;
    }

    private int set(int k, int what, int v) {
        if (!auto(k) || what < 0 || what > 1 || v < 0 || v > 2 + what) {
            return BAD;
        }
        Auto a = w.autos.get(k);
        int was = what == 0 ? a.habit : a.late;
        a.habit = what == 0 ? v : a.habit;
        a.late = what == 1 ? v : a.late;
        return was;
    }

    private int told(int k, int what) {
        if (!auto(k) || what < 0 || what > 7) {
            return BAD;
        }
        Auto a = w.autos.get(k);
        return new int[] {a.cell, a.lane, a.pace, w.gap(k), w.ahead(k), w.other(k), a.went, a.changes}[what];
    }

    private int habit(int number) {
        if (number < 0 || number > 2) {
            return BAD;
        }
        int fault = faultOf(tape);
        if (fault < 0) {
            w.habits[number] = tape.replace(" ", "");
        }
        tape = "";
        return fault >= 0 ? -20 - fault : w.habits[number].split(";").length;
    }

    /** The place of the first byte that can't stand, or -1. Each state names what may stand next. */
    static int faultOf(String text) {
        String state = "claim";
        int open = 0;
        int clauses = 1;
        boolean joined = false;
        for (int i = 0; i < text.length(); i++) {
            char b = text.charAt(i);
            if (b == ' ') {
                joined = false;
                continue;
            }
            boolean digit = b >= '0' && b <= '9';
            String next = "";
            switch (state) {
                case "claim":
                    next = b == '!' ? "bare" : bareNext(b, open);
                    open += b == '(' ? 1 : 0;
                    break;
                case "bare":
                    next = bareNext(b, open);
                    open += b == '(' ? 1 : 0;
                    break;
                case "relation":
                    next = "<>=".indexOf(b) >= 0 ? "number" : "";
                    break;
                case "number":
                    next = b == '-' ? "digit" : digit ? "second" : "";
                    break;
                case "digit":
                    next = digit ? "second" : "";
                    break;
                case "second":
                case "behind":
                    if (digit) {
                        next = state.equals("second") && joined ? "behind" : "";
                    } else if (b == '&' || b == '|') {
                        next = "claim";
                    } else if (b == ')' && open > 0) {
                        open--;
                        next = "behind";
                    } else if (b == ':' && open == 0) {
                        next = "act";
                    }
                    break;
                case "act":
                    next = "+-=".indexOf(b) >= 0 ? "amount" : "";
                    break;
                case "amount":
                    next = digit ? "acted" : "";
                    break;
                default:
                    if (b == 'c' && state.equals("acted")) {
                        next = "ended";
                    } else if (b == ';' && clauses < 6) {
                        clauses++;
                        next = "claim";
                    }
                    break;
            }
            if (next.isEmpty()) {
                return i;
            }
            state = next;
            joined = true;
        }
        return state.equals("acted") || state.equals("ended") ? -1 : text.length();
    }

    private static String bareNext(char b, int open) {
        if (b == '(') {
            return open < 4 ? "claim" : "";
        }
        return b == '*' ? "behind" : "gdov".indexOf(b) >= 0 ? "relation" : "";
    }

    static int clauseFor(String habit, Note seen, int pace) {
        if (habit.isEmpty()) {
            return NONE;
        }
        String[] clauses = habit.split(";");
        for (int k = 0; k < clauses.length; k++) {
            if (so(clauses[k].split(":")[0], seen, pace)) {
                return k;
            }
        }
        return NONE;
    }

    private static boolean so(String test, Note seen, int pace) {
        for (char cut : new char[] {'|', '&'}) {
            int at = outerPlace(test, cut);
            if (at >= 0) {
                boolean left = so(test.substring(0, at), seen, pace);
                boolean right = so(test.substring(at + 1), seen, pace);
                return cut == '|' ? left | right : left & right;
            }
        }
        if (test.startsWith("!")) {
            return !so(test.substring(1), seen, pace);
        }
        if (test.startsWith("(")) {
            return so(test.substring(1, test.length() - 1), seen, pace);
        }
        if (test.equals("*")) {
            return true;
        }
        int value = new int[] {seen.gap, seen.lead, seen.other, pace}["gdov".indexOf(test.charAt(0))];
        int sign = Integer.signum(Integer.compare(value, Integer.parseInt(test.substring(2))));
        return sign == "<=>".indexOf(test.charAt(1)) - 1;
    }

    private static int outerPlace(String test, char cut) {
        int open = 0;
        for (int i = 0; i < test.length(); i++) {
            open += test.charAt(i) == '(' ? 1 : test.charAt(i) == ')' ? -1 : 0;
            if (open == 0 && test.charAt(i) == cut) {
                return i;
            }
        }
        return -1;
    }

    private int board(int from, int to, int limit) {
        if (Math.min(from, Math.min(to, limit)) < 0 || Math.max(from, to) >= w.length || limit > 9) {
            return BAD;
        }
        if (w.boards.size() == 4) {
            return FULL;
        }
        w.boards.add(new int[] {from, to, limit});
        return w.boards.size() - 1;
    }

    private int loop(int cell) {
        if (cell < 0 || cell >= w.length) {
            return BAD;
        }
        if (w.loops.size() == 4) {
            return FULL;
        }
        w.loops.add(new int[] {cell, 0, 0});
        return w.loops.size() - 1;
    }

    private int tap(int k) {
        if (!auto(k)) {
            return BAD;
        }
        int was = w.autos.get(k).tapped ? 1 : 0;
        w.autos.get(k).tapped = true;
        return was;
    }

    private int ticks(int n) {
        if (n < 1 || n > 200) {
            return BAD;
        }
        if (w.now + n > 99999) {
            return FULL;
        }
        for (int t = 0; t < n; t++) {
            w.tick();
        }
        return w.now;
    }

    private int count(int what) {
        if (what < 0 || what > 9) {
            return BAD;
        }
        int inKnots = 0;
        for (int[] k : w.knots()) {
            inKnots += k[1];
        }
        return new int[] {w.autos.size(), clauses(0), clauses(1), clauses(2), w.boards.size(), w.loops.size(), w.knots().size(),
            inKnots, w.now, w.even() ? 1 : 0}[what];
    }

    private int clauses(int number) {
        return w.habits[number].isEmpty() ? 0 : w.habits[number].split(";").length;
    }

    private int knot(int i, int what) {
        if (i < 0 || what < 0 || what > 1) {
            return BAD;
        }
        List<int[]> all = w.knots();
        return i < all.size() ? all.get(i)[what] : NONE;
    }

    private World tapped(int k, boolean so, int n, int calming) {
        World f = w.twin();
        f.autos.get(k).tapped = so;
        for (int c = 0; c < f.autos.size(); c++) {
            if ((calming & 1 << c) != 0) {
                f.autos.get(c).habit = 2;
            }
        }
        for (int t = 0; t < n; t++) {
            f.tick();
        }
        return f;
    }

    private int cost(int k, int n, int who) {
        if (!auto(k) || n < 1 || n > 200 || !auto(who) && who != -1) {
            return -100001;
        }
        World with = tapped(k, true, n, 0);
        World without = w.twin();
        without.autos.get(k).tapped = false;
        for (int t = 0; t < n; t++) {
            without.tick();
        }
        int fewer = 0;
        for (int c = 0; c < w.autos.size(); c++) {
            fewer += who == -1 || who == c ? without.autos.get(c).went - with.autos.get(c).went : 0;
        }
        return fewer;
    }

    private int calmed(int k, int n) {
        if (!auto(k) || n < 1 || n > 200) {
            return BAD;
        }
        if (w.autos.size() > 8) {
            return NOT;
        }
        int best = NONE;
        for (int bits = (1 << w.autos.size()) - 1; bits >= 0; bits--) {
            boolean fewer = best == NONE || Integer.bitCount(bits) <= Integer.bitCount(best);
            if (fewer && tapped(k, true, n, bits).knots().isEmpty()) {
                best = bits;
            }
        }
        return best;
    }

    private int round(int n) {
        if (n < 1 || n > 500) {
            return BAD;
        }
        World f = w.twin();
        for (int t = 1; t <= n; t++) {
            f.tick();
            if (f.state().equals(w.state())) {
                return t;
            }
        }
        return NONE;
    }

    private int evens(int n) {
        if (n < 0 || n > 500) {
            return BAD;
        }
        World f = w.twin();
        int t = 0;
        while (t < n && !f.even()) {
            f.tick();
            t++;
        }
        return f.even() ? t : NONE;
    }

    private int image(int n) {
        if (n < 0 || n > 1) {
            return BAD;
        }
        images[n] = w.twin();
        return 1;
    }

    private int restore(int n) {
        if (n < 0 || n > 1) {
            return BAD;
        }
        if (images[n] == null) {
            return NONE;
        }
        w = images[n].twin();
        return 1;
    }

    private int machine(int sheet, int kind, int i, int n) {
        if (rows[sheet] == null) {
            return NULL;
        }
        return kinds[sheet] != kind ? CAST : reaches(sheet, i, n) ? 0 : INDEX;
    }

    private boolean reaches(int sheet, int i, int n) {
        return i >= 0 && n >= 0 && (long) i + n <= rows[sheet].length;
    }

    private int paces(int sheet, int kind, int i) {
        if (sheet < 0 || sheet > 3 || kind < 1 || kind > 2) {
            return BAD;
        }
        int n = w.autos.size();
        int found = machine(sheet, kind, i, n);
        for (int k = 0; k < n && found == 0; k++) {
            found = rows[sheet][i + k] < 0 || rows[sheet][i + k] > 9 ? NOT : 0;
        }
        for (int k = 0; k < n && found == 0; k++) {
            w.autos.get(k).pace = rows[sheet][i + k];
        }
        return found == 0 ? n : found;
    }

    private int taps(int sheet, int i) {
        if (sheet < 0 || sheet > 3) {
            return BAD;
        }
        int found = machine(sheet, 0, i, w.autos.size());
        if (found != 0) {
            return found;
        }
        int all = 0;
        for (int k = 0; k < w.autos.size(); k++) {
            w.autos.get(k).tapped = rows[sheet][i + k] != 0;
            all += w.autos.get(k).tapped ? 1 : 0;
        }
        return all;
    }

    private int sheet(int sheet, int kind, int n) {
        if (sheet < 0 || sheet > 3 || kind < 0 || kind > 2 || n > 36) {
            return BAD;
        }
        if (n < 0) {
            return SIZE;
        }
        rows[sheet] = new int[n];
        kinds[sheet] = kind;
        return n;
    }

    private int drop(int sheet) {
        if (sheet < 0 || sheet > 3) {
            return BAD;
        }
        if (rows[sheet] == null) {
            return NULL;
        }
        int had = rows[sheet].length;
        rows[sheet] = null;
        return had;
    }

    private int item(int sheet, int kind, int i, int v) {
        if (sheet < 0 || sheet > 3 || kind < 0 || kind > 2) {
            return BAD;
        }
        int found = machine(sheet, kind, i, 1);
        if (found != 0) {
            return found;
        }
        rows[sheet][i] = kind == 0 ? (v == 0 ? 0 : 1) : kind == 1 ? (v << 24) >> 24 : v;
        return 1;
    }

    private int copy(int from, int i, int to, int j, int n) {
        if (from < 0 || from > 3 || to < 0 || to > 3) {
            return BAD;
        }
        if (rows[from] == null || rows[to] == null) {
            return NULL;
        }
        if (kinds[from] != kinds[to]) {
            return CAST;
        }
        if (!reaches(from, i, n) || !reaches(to, j, n)) {
            return INDEX;
        }
        int[] taken = rows[from].clone();
        for (int k = 0; k < n; k++) {
            rows[to][j + k] = taken[i + k];
        }
        return n;
    }
}
