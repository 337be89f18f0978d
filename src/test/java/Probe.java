import java.util.ArrayList;
import java.util.List;

/**
 * All that can be seen of an object by calls, as a list of answers: two objects that are alike give like lists.
 * The object is worn out by it. What tells most comes first, for the list ends where the object's calls end.
 */
final class Probe {
    private static final int CARS = 12, ROW = 36;

    private final KnotRing x;
    private final List<String> answers = new ArrayList<>();
    private int left;

    private Probe(KnotRing x, int calls) {
        this.x = x;
        left = calls;
    }

    static List<String> of(KnotRing x, int calls) {
        Probe p = new Probe(x, calls);
        p.lookAtRing();
        p.lookAtForetold();
        p.lookAtTicks();
        p.lookAtHabitsOfCars();
        p.lookAtTape();
        p.lookAtLengthAndBoards();
        p.lookAtImages();
        p.lookAtSheets();
        return p.answers;
    }

    private int ask(String name, long... args) {
        if (left == 0) {
            return -1;
        }
        left--;
        Call call = new Call(name, args);
        int got = call.on(x);
        answers.add(call + " answers " + got);
        return got;
    }

    private int cars() {
        return Math.min(CARS, Math.max(0, ask("count", 0)));
    }

    private void lookAtRing() {
        for (int what = 1; what <= 9; what++) {
            ask("count", what);
        }
        ask("first");
        ask("knot", 0, 0);
        ask("knot", 1, 0);
        int cars = cars();
        for (int c = 0; c < cars; c++) {
            for (int what = 0; what < 8; what++) {
                ask("told", c, what);
            }
            ask("holds", c);
        }
        for (int p = 0; p < 4; p++) {
            ask("looped", p, 0);
            ask("looped", p, 1);
        }
    }

    private void lookAtForetold() {
        ask("cost", 0, 3, -1);
        ask("after", 1, 3);
        ask("calmed", 0, 2);
        ask("round", 20);
        ask("evens", 20);
    }

    /** What is TAPPED and what was noted shows in the ticks that follow. */
    private void lookAtTicks() {
        int cars = cars();
        for (int t = 0; t < 2; t++) {
            ask("ticks", 1);
            for (int c = 0; c < cars; c++) {
                ask("told", c, 0);
            }
        }
    }

    private void lookAtHabitsOfCars() {
        int cars = cars();
        for (int c = 0; c < cars; c++) {
            ask("set", c, 0, 1);
            ask("set", c, 1, 0);
            ask("tap", c);
        }
    }

    private void lookAtTape() {
        ask("type", ' ', 1);
        ask("habit", 1);
        ask("holds", 0);
    }

    private void lookAtLengthAndBoards() {
        ask("ring", 1, 9);
        ask("evenly", 12, 9);
        ask("told", 11, 0);
        ask("ticks", 1);
        for (int c = 0; c < CARS; c++) {
            ask("told", c, 2);
        }
    }

    private void lookAtImages() {
        for (int n = 0; n < 2; n++) {
            ask("restore", n);
            ask("count", 8);
            ask("count", 4);
            int cars = cars();
            ask("ticks", 1);
            for (int c = 0; c < cars; c++) {
                ask("told", c, 0);
            }
        }
    }

    private void lookAtSheets() {
        ask("evenly", 1, 0);
        for (int s = 0; s < 4; s++) {
            for (int i = 0; i < ROW && (ask("taps", s, i) >= 0 || isPace(s, 1, i) || isPace(s, 2, i)); i++) {
                ask("told", 0, 2);
            }
            ask("drop", s);
        }
    }

    private boolean isPace(int sheet, int lane, int i) {
        int found = ask("paces", sheet, lane, i);
        return found == 1 || found == KnotRing.NOT;
    }
}
