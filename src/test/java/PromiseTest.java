/** Each promise by answers that were worked out by hand: ordinary inputs, edges, wrong inputs. */
public final class PromiseTest {
    private static final int BAD = -1, NOT = -2, FULL = -3, NONE = -4, NULL = -11, CAST = -12, INDEX = -13, SIZE = -14;
    private static final int LOW = Integer.MIN_VALUE, HIGH = Integer.MAX_VALUE;
    private static String part = "";

    public static void main(String[] args) {
        newObject();
        ring();
        car();
        evenly();
        set();
        told();
        type();
        habit();
        faults();
        holds();
        board();
        loops();
        tap();
        ticks();
        late();
        lanes();
        count();
        knots();
        first();
        cost();
        after();
        calmed();
        round();
        evens();
        images();
        paces();
        taps();
        sheets();
        items();
        copies();
        Due.end();
    }

    private static void is(String call, int got, int want) {
        Due.is(part + ": " + call, got, want);
    }

    private static KnotRing begin(String name) {
        part = name;
        return new KnotRing();
    }

    private static void newObject() {
        KnotRing x = begin("new");
        for (int what = 0; what <= 8; what++) {
            is("count(" + what + ")", x.count(what), 0);
        }
        is("even", x.count(9), 1);
        is("first", x.first(), NONE);
        is("told", x.told(0, 0), BAD);
        is("length", x.ring(0, 30), 30);
        is("most", x.ring(1, 5), 5);
        is("restore 0", x.restore(0), NONE);
        is("restore 1", x.restore(1), NONE);
        for (int s = 0; s < 4; s++) {
            is("drop", x.drop(s), NULL);
        }
        is("type", x.type('*', 1), 1);
    }

    private static void ring() {
        KnotRing x = begin("ring");
        is("12", x.ring(0, 12), 30);
        is("99", x.ring(0, 99), 12);
        is("11", x.ring(0, 11), BAD);
        is("100", x.ring(0, 100), BAD);
        is("low", x.ring(0, LOW), BAD);
        is("high", x.ring(0, HIGH), BAD);
        is("still 99", x.ring(0, 20), 99);
        is("most 1", x.ring(1, 1), 5);
        is("most 9", x.ring(1, 9), 1);
        is("most 0", x.ring(1, 0), BAD);
        is("most 10", x.ring(1, 10), BAD);
        is("what 2", x.ring(2, 15), BAD);
        is("what -1", x.ring(-1, 15), BAD);
        is("a car", x.car(1, 19, 0), 0);
        is("not with a car", x.ring(0, 20), NOT);
        is("bad ahead of not", x.ring(0, 11), BAD);
        is("most with a car", x.ring(1, 3), 9);
        KnotRing y = begin("ring with a board");
        y.board(0, 0, 0);
        is("not", y.ring(0, 12), NOT);
        KnotRing z = begin("ring with a loop");
        z.loop(0);
        is("not", z.ring(0, 12), NOT);
    }

    private static void car() {
        KnotRing x = begin("car");
        is("lane -1", x.car(-1, 0, 0), BAD);
        is("lane 2", x.car(2, 0, 0), BAD);
        is("cell -1", x.car(0, -1, 0), BAD);
        is("cell 30", x.car(0, 30, 0), BAD);
        is("pace -1", x.car(0, 0, -1), BAD);
        is("pace 10", x.car(0, 0, 10), BAD);
        is("none came of these", x.count(0), 0);
        for (int c = 0; c < 12; c++) {
            is("car " + c, x.car(c % 2, 29 - c / 2, c % 10), c);
        }
        is("taken", x.car(0, 29, 0), NOT);
        is("full", x.car(0, 3, 0), FULL);
        is("bad ahead of full", x.car(0, 3, 10), BAD);
        for (int c = 0; c < 12; c++) {
            is("cell", x.told(c, 0), 29 - c / 2);
            is("lane", x.told(c, 1), c % 2);
            is("pace", x.told(c, 2), c % 10);
        }
        KnotRing y = begin("car beside");
        y.ring(0, 12);
        is("one", y.car(0, 11, 9), 0);
        is("beyond", y.car(0, 12, 9), BAD);
        is("not", y.car(0, 11, 9), NOT);
        is("beside", y.car(1, 11, 9), 1);
    }

    private static void evenly() {
        KnotRing x = begin("evenly");
        is("0", x.evenly(0, 1), BAD);
        is("13", x.evenly(13, 1), BAD);
        is("pace -1", x.evenly(3, -1), BAD);
        is("pace 10", x.evenly(3, 10), BAD);
        is("low", x.evenly(LOW, 1), BAD);
        x.car(1, 7, 0);
        x.set(0, 0, 2);
        x.set(0, 1, 3);
        x.tap(0);
        x.ticks(1);
        is("first", x.first(), 0);
        x.tap(0);
        is("7", x.evenly(7, 3), 7);
        is("first is forgotten", x.first(), NONE);
        is("now stays", x.count(8), 1);
        is("cars", x.count(0), 7);
        int[] cells = {0, 4, 8, 12, 17, 21, 25};
        for (int c = 0; c < 7; c++) {
            is("cell", x.told(c, 0), cells[c]);
            is("lane", x.told(c, 1), 0);
            is("pace", x.told(c, 2), 3);
            is("went", x.told(c, 6), 0);
        }
        is("habit", x.set(0, 0, 0), 0);
        is("late", x.set(0, 1, 0), 0);
        is("not tapped", x.tap(0), 0);
        is("bad changes nothing", x.evenly(12, 10), BAD);
        is("cars", x.count(0), 7);
        KnotRing y = begin("evenly on twelve");
        y.ring(0, 12);
        is("12", y.evenly(12, 0), 12);
        is("gap", y.told(11, 3), 0);
        is("ahead", y.told(11, 4), 0);
        is("one", y.evenly(1, 9), 1);
        is("old ones are gone", y.told(1, 0), BAD);
    }

    private static void set() {
        KnotRing x = begin("set");
        is("no car", x.set(0, 0, 0), BAD);
        x.car(0, 0, 0);
        is("habit", x.set(0, 0, 2), 0);
        is("habit", x.set(0, 0, 1), 2);
        is("habit 3", x.set(0, 0, 3), BAD);
        is("habit -1", x.set(0, 0, -1), BAD);
        is("habit stays", x.set(0, 0, 0), 1);
        is("late", x.set(0, 1, 3), 0);
        is("late 4", x.set(0, 1, 4), BAD);
        is("late -1", x.set(0, 1, -1), BAD);
        is("late stays", x.set(0, 1, 0), 3);
        is("what 2", x.set(0, 2, 0), BAD);
        is("what -1", x.set(0, -1, 0), BAD);
        is("car -1", x.set(-1, 0, 0), BAD);
        is("car 1", x.set(1, 0, 0), BAD);
        is("high", x.set(HIGH, 0, 0), BAD);
    }

    private static void told() {
        KnotRing x = begin("told");
        x.ring(0, 20);
        x.car(0, 18, 1);
        is("gap alone", x.told(0, 3), 19);
        is("ahead alone", x.told(0, 4), 0);
        is("other all free", x.told(0, 5), 20);
        x.car(0, 3, 2);
        x.car(1, 0, 3);
        x.car(1, 18, 4);
        int[][] due = {{18, 0, 1, 4, 1, 0, 0, 0}, {3, 0, 2, 14, 0, 15, 0, 0}, {0, 1, 3, 17, 3, 3, 0, 0}, {18, 1, 4, 1, 2, 0, 0, 0}};
        for (int c = 0; c < 4; c++) {
            for (int what = 0; what < 8; what++) {
                is("told(" + c + ", " + what + ")", x.told(c, what), due[c][what]);
            }
        }
        is("what 8", x.told(0, 8), BAD);
        is("what -1", x.told(0, -1), BAD);
        is("car -1", x.told(-1, 0), BAD);
        is("car 4", x.told(4, 0), BAD);
        x.ticks(2);
        is("went", x.told(0, 6), 2);
        is("went", x.told(1, 6), 4);
    }

    private static void type() {
        KnotRing x = begin("type");
        is("0", x.type(0x2a2a, 0), BAD);
        is("9", x.type(0x2a2a, 9), BAD);
        is("-1", x.type(0x2a2a, -1), BAD);
        is("31", x.type(0x2a1f, 2), BAD);
        is("127", x.type(0x7f2a, 2), BAD);
        is("a byte above is not looked at", x.type(0x7f2a, 1), 1);
        is("a byte of the high half", x.type(0xffL << 56 | 0x2a2a2a2a2a2a2aL, 8), BAD);
        is("32", x.type(0x2020, 2), 3);
        is("126", x.type(0x7e, 1), 4);
        x.habit(0);
        is("empty again", x.type(0x2a3a2b31, 4), 4);
        is("highest first", x.habit(0), 1);
        for (int k = 1; k <= 12; k++) {
            is("eight", x.type(0x2020202020202020L, 8), 8 * k);
        }
        is("104", x.type(0x2020202020202020L, 8), FULL);
        is("101", x.type(0x2020202020L, 5), FULL);
        is("bad ahead of full", x.type(0, 5), BAD);
        is("100", x.type(0x20202020L, 4), 100);
        is("101", x.type(0x20, 1), FULL);
        is("blanks alone", x.habit(0), -120);
    }

    private static void habit() {
        KnotRing x = begin("habit");
        Due.type(x, "*:=3");
        is("3", x.habit(3), BAD);
        is("-1", x.habit(-1), BAD);
        is("the tape stays", x.habit(2), 1);
        is("clauses of 2", x.count(3), 1);
        is("the tape is empty", x.habit(2), -20);
        is("a fault leaves the habit", x.count(3), 1);
        Due.habit(x, 0, "g<1:-9;*:+1c", 2);
        Due.habit(x, 1, "*:+0;*:+1;*:+2;*:+3;*:+4;*:+5", 6);
        is("clauses of 0", x.count(1), 2);
        is("clauses of 1", x.count(2), 6);
        Due.type(x, "?");
        is("a fault", x.habit(0), -20);
        Due.type(x, "*:=1");
        is("empty behind a fault", x.habit(0), 1);
    }

    private static void faults() {
        Object[][] rows = {
            {"", -20}, {"   ", -23}, {"*", -21}, {"* ", -22}, {"*:", -22}, {"*:+", -23}, {"*:1", -22}, {"*:+1c ;", -27},
            {"*:+1;;", -25}, {"*:+12", -24}, {"*:+1 2", -25}, {"*:+c", -23}, {"*:+1c c", -26}, {"*:+1;g", -26},
            {"g", -21}, {"g1", -21}, {"g<", -22}, {"g<x", -22}, {"g<-", -23}, {"g<- 1 2", -26}, {"g<1-", -23},
            {"g<100:+1", -24}, {"g<10 0:+1", -25}, {"g<<1", -22}, {"G<1", -20}, {"!", -21}, {"!!*", -21}, {"! !*", -22},
            {"(", -21}, {"()", -21}, {"(*", -22}, {"(*))", -23}, {"*)", -21}, {"((((*))))", -29}, {"(((((", -24},
            {"!(!(!(!(!(", -29}, {"(*:", -22}, {"*&", -22}, {"*|", -22}, {"*&|*", -22}, {"*||*", -22}, {"**", -21},
            {"*g<1", -21}, {"g<1g", -23}, {"(((*))(", -26}, {"(*)(*)", -23}, {"  x", -22}, {":+1", -20}, {";", -20},
            {"*:+1;*:+1;*:+1;*:+1;*:+1;*:+1;", -49}, {"*:+1;*:+1;*:+1;*:+1;*:+1;*:+1 ;", -50},
            {"*:+1;*:+1;*:+1;*:+1;*:+1;*:+1x", -49}, {"*:+1x", -24}, {"v>-", -23}, {"*:*", -22}, {"~", -20}};
        for (Object[] row : rows) {
            KnotRing x = begin("fault of '" + row[0] + "'");
            Due.type(x, (String) row[0]);
            is("habit", x.habit(1), (Integer) row[1]);
            is("none came of it", x.count(2), 0);
        }
        String[] sound = {"*:=0", "!*:=0", "(*):=0", "!(!*):=0", "g<99:+9c", "d>-99:-9", "o=00:+0", "v = - 1 2 : + 1".replace("1 2", "12"),
            "((((*)|*)&*)|(*)):=1", "(*)&((((*)))):=1", " * : = 0 c ", "g<1|d<1&o<1|!v<1:+1"};
        for (String text : sound) {
            Due.habit(begin("sound"), 0, text, 1);
        }
    }

    /** One ring, where GAP is 4, d -2, OTHER 7, v 3 for car 0: which texts hold. */
    private static void holds() {
        KnotRing x = begin("holds");
        x.car(0, 28, 3);
        x.car(0, 3, 1);
        x.car(1, 5, 0);
        is("no clauses", x.holds(0), NONE);
        Object[][] rows = {
            {"g=4", 1}, {"g<4", 0}, {"g>4", 0}, {"g<5", 1}, {"g>3", 1}, {"d=-2", 1}, {"d<0", 1}, {"d>-3", 1}, {"d>-2", 0}, {"d=2", 0},
            {"o=7", 1}, {"o=07", 1}, {"o<8", 1}, {"o>7", 0}, {"v=3", 1}, {"v<3", 0}, {"v>2", 1}, {"*", 1}, {"!*", 0}, {"!g=4", 0}, {"!g<4", 1},
            {"g=4&v=3", 1}, {"g=4&v=2", 0}, {"g=1|v=3", 1}, {"g=1|v=2", 0}, {"!*&*|*", 1}, {"*|*&!*", 1}, {"(*|*)&!*", 0}, {"!(*&!*)", 1},
            {"!(*|!*)", 0}, {"!(!(g=4))", 1}, {"!(!(!(!*)))", 1}, {"g=1|d=1|o=1|v=3", 1}, {"g=4&d=-2&o=7&v=2", 0},
            {"!(g=4&d=-2)|!(o=7&v=3)", 0}, {"!(g=4&d=-1)&(o=6|v=3)", 1}, {"g=1&*|o=7&!v=4", 1}, {"g=-4", 0}, {"g>-1", 1}};
        for (Object[] row : rows) {
            Due.habit(x, 0, row[0] + ":+1", 1);
            is("'" + row[0] + "'", x.holds(0), (Integer) row[1] == 1 ? 0 : NONE);
        }
        Due.habit(x, 0, "g=1:+1;d=1:+1;o=7:+1;*:+1", 4);
        is("the first that holds", x.holds(0), 2);
        Due.habit(x, 1, "!*:+1;v=1:+1", 2);
        is("car 1", x.holds(1), 3);
        x.set(1, 0, 1);
        is("car 1 by habit 1", x.holds(1), 1);
        x.set(0, 1, 3);
        x.ticks(1);
        is("as it is now, whatever LATE", x.holds(0), 3);
        is("car -1", x.holds(-1), BAD);
        is("car 3", x.holds(3), BAD);
    }

    private static void board() {
        KnotRing x = begin("board");
        is("from -1", x.board(-1, 0, 0), BAD);
        is("from 30", x.board(30, 0, 0), BAD);
        is("to -1", x.board(0, -1, 0), BAD);
        is("to 30", x.board(0, 30, 0), BAD);
        is("limit -1", x.board(0, 0, -1), BAD);
        is("limit 10", x.board(0, 0, 10), BAD);
        for (int b = 0; b < 4; b++) {
            is("a board", x.board(29, 29, 9), b);
        }
        is("full", x.board(0, 0, 0), FULL);
        is("bad ahead of full", x.board(30, 0, 0), BAD);
        is("boards", x.count(4), 4);
        int[] cells = {27, 28, 29, 0, 2, 3, 9, 10, 11, 12};
        int[] paces = {5, 2, 2, 2, 2, 5, 5, 1, 0, 5};
        for (int k = 0; k < cells.length; k++) {
            KnotRing y = begin("a board at cell " + cells[k]);
            y.board(28, 2, 2);
            y.board(10, 11, 1);
            y.board(11, 11, 0);
            y.board(0, 29, 9);
            y.car(k % 2, cells[k], 5);
            y.ticks(1);
            is("pace", y.told(0, 2), paces[k]);
        }
        KnotRing z = begin("a board all round");
        z.board(6, 5, 3);
        z.evenly(3, 4);
        z.ticks(1);
        is("pace", z.told(0, 2) + z.told(1, 2) + z.told(2, 2), 9);
    }

    private static void loops() {
        KnotRing x = begin("loop");
        is("-1", x.loop(-1), BAD);
        is("30", x.loop(30), BAD);
        is("28", x.loop(28), 0);
        is("29", x.loop(29), 1);
        is("3", x.loop(3), 2);
        is("4", x.loop(4), 3);
        is("full", x.loop(4), FULL);
        is("bad ahead of full", x.loop(30), BAD);
        is("loops", x.count(5), 4);
        x.car(0, 28, 5);
        x.car(1, 28, 5);
        x.car(1, 2, 0);
        x.ticks(1);
        int[] cars = {0, 2, 1, 0};
        int[] paces = {0, 8, 5, 0};
        for (int p = 0; p < 4; p++) {
            is("cars", x.looped(p, 0), cars[p]);
            is("paces", x.looped(p, 1), paces[p]);
        }
        x.ticks(1);
        is("from 3 past 4", x.looped(3, 1), 5);
        is("standing ones are not counted", x.looped(2, 0), 1);
        KnotRing y = new KnotRing();
        Due.habit(y, 0, "*:=0c", 1);
        y.car(0, 7, 0);
        y.loop(7);
        y.ticks(1);
        is("it changed lane at the loop", y.told(0, 7), 1);
        is("and did not come to it", y.looped(0, 0), 0);
        is("loop 4", x.looped(4, 0), BAD);
        is("loop -1", x.looped(-1, 0), BAD);
        is("what 2", x.looped(0, 2), BAD);
        is("what -1", x.looped(0, -1), BAD);
    }

    private static void tap() {
        KnotRing x = begin("tap");
        is("no car", x.tap(0), BAD);
        x.evenly(2, 3);
        Due.habit(x, 0, "*:=3", 1);
        is("first", x.tap(1), 0);
        is("again", x.tap(1), 1);
        is("-1", x.tap(-1), BAD);
        is("2", x.tap(2), BAD);
        x.ticks(1);
        is("tapped", x.told(1, 2), 0);
        is("not tapped", x.told(0, 2), 3);
        x.ticks(1);
        is("for one tick", x.told(1, 2), 3);
        is("not any more", x.tap(1), 0);
    }

    private static void ticks() {
        KnotRing x = begin("ticks");
        is("0", x.ticks(0), BAD);
        is("201", x.ticks(201), BAD);
        is("-1", x.ticks(-1), BAD);
        is("200", x.ticks(200), 200);
        is("1", x.ticks(1), 201);
        for (int k = 0; k < 498; k++) {
            x.ticks(200);
        }
        is("99801", x.count(8), 99801);
        is("200 more", x.ticks(200), FULL);
        is("199 more", x.ticks(199), FULL);
        is("198 more", x.ticks(198), 99999);
        is("one more", x.ticks(1), FULL);
        is("bad ahead of full", x.ticks(0), BAD);
        KnotRing y = begin("acts");
        String[] acts = {"*:+1", "*:-1", "*:=1", "*:-9", "*:+9", "!*:=9", "*:+9c"};
        int[] due = {4, 2, 1, 0, 5, 3, 5};
        for (int k = 0; k < acts.length; k++) {
            Due.habit(y, 0, acts[k], 1);
            y.evenly(1, 3);
            y.ticks(1);
            is(acts[k], y.told(0, 2), due[k]);
            is("lane by " + acts[k], y.told(0, 1), k == 6 ? 1 : 0);
        }
        KnotRing z = begin("nobody is run into");
        z.car(0, 0, 5);
        z.car(0, 4, 2);
        z.ticks(1);
        is("by the gap", z.told(0, 2), 3);
        is("at once", z.told(1, 0), 6);
        z.ring(1, 1);
        z.ticks(1);
        is("by the new most", z.told(1, 2), 1);
    }

    /** Car 0 comes up to one that stands at cell 8. */
    private static void late() {
        int[][] cells = {{2, 4, 6, 6, 6, 6}, {2, 4, 6, 7, 7, 7}};
        int[][] paces = {{2, 2, 2, 0, 0, 0}, {2, 2, 2, 1, 0, 0}};
        for (int late = 0; late <= 2; late += 2) {
            KnotRing x = comer("late " + late);
            x.set(0, 1, late);
            for (int t = 0; t < 6; t++) {
                x.ticks(1);
                is("cell", x.told(0, 0), cells[late / 2][t]);
                is("pace", x.told(0, 2), paces[late / 2][t]);
            }
        }
        KnotRing y = comer("late from the fourth tick on");
        y.ticks(3);
        y.set(0, 1, 3);
        y.ticks(1);
        is("what it noted when it was not late", y.told(0, 2), 1);
        y.set(0, 1, 0);
        y.ticks(1);
        is("now", y.told(0, 2), 0);
        KnotRing z = comer("v and the gap are not late");
        Due.habit(z, 0, "v>3:=0;g>3:+1", 2);
        z.set(0, 1, 3);
        z.ticks(4);
        is("0, 1, 3, 6, then the gap is 1", z.told(0, 2), 1);
    }

    private static KnotRing comer(String name) {
        KnotRing x = begin(name);
        Due.habit(x, 0, "g<3:=0;*:=2", 2);
        Due.habit(x, 1, "*:=0", 1);
        x.car(0, 0, 0);
        x.car(0, 8, 0);
        x.set(1, 0, 1);
        return x;
    }

    private static void lanes() {
        changes("alone", -1, 0, 1);
        changes("room behind", 7, 2, 1);
        changes("too little room behind", 8, 2, 0);
        changes("less pace behind", 8, 1, 1);
        changes("one who stands just behind", 9, 0, 1);
        changes("one beside", 10, 0, 0);
        changes("one just before", 11, 5, 1);
        KnotRing x = begin("both would change");
        Due.habit(x, 0, "*:+0c", 1);
        x.car(0, 10, 1);
        x.car(1, 10, 1);
        x.ticks(1);
        is("0", x.told(0, 1), 0);
        is("1", x.told(1, 1), 1);
        is("they went on", x.told(0, 0), 11);
        KnotRing y = begin("one by one");
        Due.habit(y, 0, "*:+0c", 1);
        y.car(0, 10, 1);
        y.car(0, 11, 1);
        y.ticks(1);
        is("0 changed", y.told(0, 1), 1);
        is("1 found it behind", y.told(1, 1), 0);
        y.evenly(1, 0);
        y.car(0, 1, 0);
        y.ticks(1);
        is("0 stands", y.told(0, 1), 1);
        is("so 1 may", y.told(1, 1), 1);
        KnotRing z = begin("the gap then");
        Due.habit(z, 0, "g<3:+0c", 1);
        z.car(0, 0, 5);
        z.car(0, 3, 0);
        z.car(0, 28, 5);
        z.set(2, 0, 1);
        z.ticks(1);
        is("0 is past", z.told(0, 0), 5);
        is("who was before it is in its way no more", z.told(2, 0), 2);
        is("changes", z.told(0, 7), 1);
        is("no change", z.told(2, 7), 0);
        KnotRing w = begin("a tapped one changes");
        Due.habit(w, 0, "*:+0c", 1);
        w.car(0, 0, 5);
        w.tap(0);
        w.ticks(1);
        is("lane", w.told(0, 1), 1);
        is("cell", w.told(0, 0), 0);
    }

    private static void changes(String name, int cell, int pace, int lane) {
        KnotRing x = begin("lane: " + name);
        Due.habit(x, 0, "*:+0c", 1);
        x.car(0, 10, 2);
        if (cell >= 0) {
            x.car(1, cell, pace);
            x.set(1, 0, 1);
        }
        x.ticks(1);
        is("lane", x.told(0, 1), lane);
        is("changes", x.told(0, 7), lane);
    }

    private static void count() {
        KnotRing x = begin("count");
        is("-1", x.count(-1), BAD);
        is("10", x.count(10), BAD);
        x.car(0, 0, 2);
        is("even alone", x.count(9), 1);
        x.car(1, 0, 2);
        is("even", x.count(9), 1);
        x.car(1, 5, 3);
        is("uneven", x.count(9), 0);
        x.evenly(3, 0);
        is("standing is not even", x.count(9), 0);
        is("knots", x.count(6), 1);
        is("cars in knots", x.count(7), 3);
        is("cars", x.count(0), 3);
    }

    private static void knots() {
        KnotRing x = begin("knots");
        x.car(0, 20, 1);
        is("one is none", x.knot(0, 0), NONE);
        x.car(1, 4, 0);
        is("of two lanes is none", x.count(6), 0);
        x.car(0, 10, 0);
        is("all of a lane: the least number", x.knot(0, 0), 0);
        x.car(0, 25, 2);
        is("head", x.knot(0, 0), 0);
        x.car(0, 29, 1);
        x.car(0, 3, 1);
        x.car(0, 5, 2);
        is("two", x.count(6), 2);
        is("by cells: head", x.knot(0, 0), 5);
        is("size", x.knot(0, 1), 2);
        is("then", x.knot(1, 0), 0);
        is("size", x.knot(1, 1), 2);
        is("no third", x.knot(2, 0), NONE);
        is("cars", x.count(7), 4);
        x.car(1, 3, 1);
        x.car(1, 2, 0);
        x.car(1, 12, 9);
        is("three", x.count(6), 3);
        is("lane 0 at cell 3", x.knot(0, 0), 5);
        is("lane 1 at cell 4", x.knot(1, 0), 1);
        is("of three", x.knot(1, 1), 3);
        is("last", x.knot(2, 0), 0);
        is("i -1", x.knot(-1, 0), BAD);
        is("what 2", x.knot(0, 2), BAD);
        is("what -1", x.knot(0, -1), BAD);
        is("bad ahead of none", x.knot(9, 2), BAD);
        is("high", x.knot(HIGH, 0), NONE);
        KnotRing y = begin("knots of like cells");
        y.car(1, 7, 0);
        y.car(1, 6, 1);
        y.car(0, 7, 0);
        y.car(0, 6, 1);
        y.car(1, 20, 2);
        y.car(0, 20, 2);
        is("lane 0", y.knot(0, 0), 2);
        is("lane 1", y.knot(1, 0), 0);
    }

    private static void first() {
        KnotRing x = begin("first");
        x.evenly(3, 2);
        x.tap(1);
        is("not yet", x.first(), NONE);
        x.ticks(1);
        is("1", x.first(), 1);
        x.tap(0);
        x.ticks(1);
        is("still 1", x.first(), 1);
        Due.habit(x, 0, "*:=2", 1);
        x.ticks(1);
        is("even again", x.first(), NONE);
        x.tap(2);
        x.tap(1);
        x.ticks(1);
        is("the least of one tick", x.first(), 1);
        x.ticks(1);
        x.tap(2);
        x.ticks(1);
        is("2", x.first(), 2);
        KnotRing y = begin("first without even");
        y.car(0, 0, 1);
        y.car(0, 9, 0);
        is("not ahead of a tick", y.first(), NONE);
        y.ticks(1);
        is("1", y.first(), 1);
        KnotRing z = begin("even at a tick's end alone");
        z.car(0, 0, 0);
        z.ticks(1);
        Due.habit(z, 0, "v=2:=1;*:=0", 2);
        z.sheet(0, 1, 2);
        z.item(0, 1, 0, 3);
        z.paces(0, 1, 0);
        is("even between ticks", z.count(9), 1);
        z.car(0, 9, 0);
        z.ticks(1);
        is("0 is kept", z.first(), 0);
    }

    private static void cost() {
        KnotRing x = begin("cost");
        is("no car", x.cost(0, 1, -1), -100001);
        Due.habit(x, 0, "d<0:=5;*:=1", 2);
        Due.habit(x, 1, "*:=2", 1);
        x.ring(0, 99);
        x.car(0, 50, 2);
        x.car(0, 0, 1);
        x.set(0, 0, 1);
        is("who is tapped", x.cost(0, 3, 0), 2);
        is("who goes on faster", x.cost(0, 3, 1), -8);
        is("all", x.cost(0, 3, -1), -6);
        is("n 0", x.cost(0, 0, 0), -100001);
        is("n 201", x.cost(0, 201, 0), -100001);
        is("car 2", x.cost(2, 1, 0), -100001);
        is("car -1", x.cost(-1, 1, 0), -100001);
        is("who 2", x.cost(0, 1, 2), -100001);
        is("who -2", x.cost(0, 1, -2), -100001);
        is("200", x.cost(1, 200, 1), 1);
        is("this one stays", x.count(8), 0);
        is("not tapped", x.tap(0), 0);
        is("against not tapped", x.cost(0, 3, -1), -6);
        is("with the other one tapped", x.cost(1, 3, 0), 0);
        is("still tapped", x.tap(0), 1);
        is("went", x.told(0, 6), 0);
    }

    private static void after() {
        KnotRing x = begin("after");
        is("no car", x.after(0, 1), BAD);
        x.evenly(2, 2);
        is("0", x.after(0, 0), BAD);
        is("201", x.after(0, 201), BAD);
        is("car 2", x.after(2, 1), BAD);
        is("car -1", x.after(-1, 1), BAD);
        is("7 ticks on one is at its tail, by 0 cells: it had PACE 2", x.after(0, 7), 0);
        is("8 ticks on", x.after(0, 8), 1);
        is("200", x.after(0, 200), 1);
        is("no tap", x.tap(0), 0);
        is("now", x.count(8), 0);
        is("knots", x.count(6), 0);
    }

    private static void calmed() {
        KnotRing x = begin("calmed");
        is("no car", x.calmed(0, 1), BAD);
        x.evenly(2, 2);
        is("0", x.calmed(0, 0), BAD);
        is("201", x.calmed(0, 201), BAD);
        is("car 2", x.calmed(2, 1), BAD);
        is("by itself", x.calmed(0, 7), 0);
        is("by none", x.calmed(0, 20), NONE);
        Due.habit(x, 2, "*:=5", 1);
        is("by the tapped one", x.calmed(0, 20), 1);
        is("by the tapped one", x.calmed(1, 20), 2);
        is("200", x.calmed(1, 200), 2);
        is("this one stays", x.set(0, 0, 0), 0);
        x.tap(0);
        is("by both", x.calmed(1, 20), 3);
        x.evenly(8, 2);
        Due.holds("calmed of eight", x.calmed(0, 1) == 0);
        x.car(1, 0, 0);
        is("nine", x.calmed(0, 1), NOT);
        is("bad ahead of not", x.calmed(9, 1), BAD);
        KnotRing y = begin("calmed: like ones");
        Due.habit(y, 2, "*:=2", 1);
        y.car(0, 3, 0);
        y.car(0, 10, 1);
        y.car(0, 20, 1);
        y.car(1, 0, 5);
        is("0 and 1 of a lane that stands", y.calmed(3, 1), 3);
    }

    private static void round() {
        KnotRing x = begin("round");
        is("0", x.round(0), BAD);
        is("501", x.round(501), BAD);
        is("no cars", x.round(500), 1);
        x.car(0, 3, 2);
        is("15", x.round(500), 15);
        is("just", x.round(15), 15);
        is("not so soon", x.round(14), NONE);
        x.ring(1, 9);
        x.evenly(1, 7);
        is("30", x.round(500), 30);
        Due.habit(x, 0, "*:=7", 1);
        x.tap(0);
        is("a tap takes a tick more, and counts for nothing", x.round(500), 31);
        is("this one stays", x.tap(0), 1);
        KnotRing y = begin("round with notes");
        y.car(0, 0, 5);
        y.set(0, 1, 1);
        is("it has noted nothing, and will have", y.round(500), NONE);
        y.ticks(1);
        is("one note of the like", y.round(500), 6);
        y.set(0, 1, 3);
        is("one note is not three", y.round(500), NONE);
        y.ticks(1);
        is("nor two", y.round(500), NONE);
        y.ticks(1);
        is("three", y.round(500), 6);
        KnotRing z = begin("round by a note alone");
        z.ring(0, 12);
        z.evenly(2, 0);
        z.set(0, 1, 1);
        z.ticks(1);
        is("all stand, as they did", z.round(500), 1);
        z.sheet(0, 2, 2);
        z.item(0, 2, 1, 3);
        z.paces(0, 2, 0);
        is("car 1 comes round to a halt", z.round(500), NONE);
        KnotRing v = begin("a note of nothing but 0 is a note");
        v.car(0, 0, 0);
        v.car(0, 1, 0);
        v.car(1, 0, 0);
        v.set(0, 1, 1);
        is("none and one", v.round(500), NONE);
        v.ticks(1);
        is("one and one", v.round(500), 1);
        KnotRing w = begin("round by lanes");
        Due.habit(w, 0, "*:=5c", 1);
        w.ring(0, 15);
        w.car(0, 0, 5);
        is("three ticks on it is in the other lane", w.round(500), 6);
    }

    private static void evens() {
        KnotRing x = begin("evens");
        is("-1", x.evens(-1), BAD);
        is("501", x.evens(501), BAD);
        is("no cars", x.evens(0), 0);
        Due.habit(x, 0, "v<3:+1", 1);
        x.evenly(2, 0);
        is("standing", x.evens(0), NONE);
        is("one tick on", x.evens(1), 1);
        x.sheet(0, 1, 2);
        x.item(0, 1, 0, 2);
        x.paces(0, 1, 0);
        is("2 and 0", x.evens(2), NONE);
        is("three ticks on", x.evens(3), 3);
        is("500", x.evens(500), 3);
        x.tap(0);
        is("tapped: 0 1, 1 2, 2 3, 3 3", x.evens(500), 4);
        is("this one stays", x.told(0, 2), 2);
        is("now", x.count(8), 0);
    }

    private static void images() {
        KnotRing x = begin("image");
        is("-1", x.image(-1), BAD);
        is("2", x.image(2), BAD);
        is("restore -1", x.restore(-1), BAD);
        is("restore 2", x.restore(2), BAD);
        is("restore", x.restore(0), NONE);
        is("image 1", x.image(1), 1);
        is("the other one is none", x.restore(0), NONE);
        fill(x);
        is("image 0", x.image(0), 1);
        spoil(x);
        is("restore", x.restore(0), 1);
        lookAtFilled(x);
        is("restore", x.restore(1), 1);
        is("cars", x.count(0), 0);
        is("length", x.ring(0, 30), 30);
        is("clauses", x.count(1), 0);
        is("sheets are no part of it", x.drop(0), 5);
        is("restore again", x.restore(0), 1);
        lookAtFilled(x);
        is("the tape is no part of it", x.type('x', 1), 3);
    }

    private static void fill(KnotRing x) {
        x.ring(0, 40);
        x.ring(1, 6);
        Due.habit(x, 0, "g<3:=0c;*:=2", 2);
        x.board(1, 2, 3);
        x.loop(2);
        x.car(0, 0, 0);
        x.car(0, 8, 0);
        x.set(0, 1, 2);
        x.ticks(3);
        x.tap(1);
        x.ticks(1);
        x.tap(0);
    }

    private static void spoil(KnotRing x) {
        x.sheet(0, 0, 5);
        x.ticks(5);
        Due.habit(x, 0, "*:=5", 1);
        x.type(0x2a2a, 2);
        x.ring(1, 1);
        x.board(0, 0, 0);
        x.loop(5);
        x.set(0, 1, 1);
        x.evenly(3, 9);
    }

    private static void lookAtFilled(KnotRing x) {
        int[] counts = {2, 2, 0, 0, 1, 1, 0, 0, 4, 0};
        for (int what = 0; what < 10; what++) {
            is("count " + what, x.count(what), counts[what]);
        }
        is("first", x.first(), 1);
        is("went", x.told(0, 6), 8);
        is("went", x.told(1, 6), 6);
        is("looped", x.looped(0, 0), 1);
        is("late", x.set(0, 1, 2), 2);
        is("length", x.ring(0, 40), NOT);
        is("most", x.ring(1, 6), 6);
        is("tapped", x.tap(0), 1);
        is("not tapped", x.tap(1), 0);
        is("cost of what is tapped already", x.cost(0, 1, 0), 2);
    }

    private static void paces() {
        KnotRing x = begin("paces");
        is("nothing there", x.paces(0, 1, 0), NULL);
        x.sheet(0, 1, 4);
        is("no cars", x.paces(0, 1, 0), 0);
        is("no cars, from the end on", x.paces(0, 1, 4), 0);
        is("no cars, from beyond it on", x.paces(0, 1, 5), INDEX);
        is("no cars, from -1 on", x.paces(0, 1, -1), INDEX);
        x.evenly(3, 1);
        x.item(0, 1, 1, 256 + 9);
        x.item(0, 1, 2, 4);
        is("bytes", x.paces(0, 1, 1), 3);
        is("0", x.told(0, 2), 9);
        is("1", x.told(1, 2), 4);
        is("2", x.told(2, 2), 0);
        x.item(0, 1, 0, 10);
        is("10", x.paces(0, 1, 0), NOT);
        x.item(0, 1, 0, -1);
        is("-1", x.paces(0, 1, 0), NOT);
        is("index ahead of not", x.paces(0, 1, 2), INDEX);
        is("nothing changed", x.told(0, 2), 9);
        is("i -1", x.paces(0, 1, -1), INDEX);
        is("high", x.paces(0, 1, HIGH), INDEX);
        is("low", x.paces(0, 1, LOW), INDEX);
        is("as ints", x.paces(0, 2, 0), CAST);
        is("cast ahead of index", x.paces(0, 2, -1), CAST);
        is("as booleans", x.paces(0, 0, 0), BAD);
        is("as 3", x.paces(0, 3, 0), BAD);
        is("sheet -1", x.paces(-1, 1, 0), BAD);
        is("sheet 4", x.paces(4, 1, 0), BAD);
        is("null ahead of index", x.paces(1, 1, -1), NULL);
        x.sheet(1, 2, 3);
        x.item(1, 2, 0, 256 + 9);
        is("an int is whole", x.paces(1, 2, 0), NOT);
        x.item(1, 2, 0, 7);
        is("ints", x.paces(1, 2, 0), 3);
        is("7", x.told(0, 2), 7);
        x.sheet(2, 0, 9);
        is("booleans are neither", x.paces(2, 1, 0), CAST);
    }

    private static void taps() {
        KnotRing x = begin("taps");
        is("nothing there", x.taps(0, 0), NULL);
        is("sheet -1", x.taps(-1, 0), BAD);
        is("sheet 4", x.taps(4, 0), BAD);
        x.evenly(3, 1);
        x.sheet(0, 0, 4);
        x.item(0, 0, 1, -8);
        x.item(0, 0, 3, 1);
        x.tap(0);
        is("from 1 on", x.taps(0, 1), 2);
        is("0", x.tap(0), 1);
        is("1", x.tap(1), 0);
        is("2", x.tap(2), 1);
        is("from 0 on", x.taps(0, 0), 1);
        is("from 2 on", x.taps(0, 2), INDEX);
        is("from -1 on", x.taps(0, -1), INDEX);
        is("high", x.taps(0, HIGH), INDEX);
        is("1", x.tap(1), 1);
        is("0", x.tap(0), 0);
        x.sheet(1, 1, 4);
        is("bytes", x.taps(1, 0), CAST);
        x.sheet(1, 2, 4);
        is("ints", x.taps(1, -1), CAST);
    }

    private static void sheets() {
        KnotRing x = begin("sheet");
        is("-1", x.sheet(-1, 0, 1), BAD);
        is("4", x.sheet(4, 0, 1), BAD);
        is("lane -1", x.sheet(0, -1, 1), BAD);
        is("lane 3", x.sheet(0, 3, 1), BAD);
        is("37", x.sheet(0, 0, 37), BAD);
        is("high", x.sheet(0, 0, HIGH), BAD);
        is("-1 items", x.sheet(0, 0, -1), SIZE);
        is("low", x.sheet(0, 0, LOW), SIZE);
        is("bad ahead of size", x.sheet(0, 3, -1), BAD);
        is("still nothing", x.drop(0), NULL);
        is("36", x.sheet(0, 2, 36), 36);
        is("item 35", x.item(0, 2, 35, 9), 1);
        is("a refused one leaves it", x.sheet(0, 2, -1), SIZE);
        x.evenly(1, 0);
        is("9", x.paces(0, 2, 35), 1);
        is("pace", x.told(0, 2), 9);
        is("a new row", x.sheet(0, 2, 36), 36);
        is("of 0", x.paces(0, 2, 35), 1);
        is("pace", x.told(0, 2), 0);
        is("an empty row", x.sheet(3, 1, 0), 0);
        is("is a row", x.item(3, 1, 0, 0), INDEX);
        is("drop of none", x.drop(3), 0);
        is("drop", x.drop(3), NULL);
        is("drop", x.drop(0), 36);
        is("drop 4", x.drop(4), BAD);
        is("drop -1", x.drop(-1), BAD);
    }

    private static void items() {
        KnotRing x = begin("item");
        is("nothing there", x.item(0, 0, 0, 0), NULL);
        is("sheet -1", x.item(-1, 0, 0, 0), BAD);
        is("sheet 4", x.item(4, 0, 0, 0), BAD);
        is("lane 3 ahead of null", x.item(0, 3, 0, 0), BAD);
        is("lane -1", x.item(0, -1, 0, 0), BAD);
        for (int lane = 0; lane < 3; lane++) {
            x.sheet(lane, lane, 2);
            is("0", x.item(lane, lane, 0, 1), 1);
            is("1", x.item(lane, lane, 1, HIGH), 1);
            is("2", x.item(lane, lane, 2, 1), INDEX);
            is("-1", x.item(lane, lane, -1, 1), INDEX);
            is("another lane", x.item(lane, (lane + 1) % 3, 0, 1), CAST);
            is("cast ahead of index", x.item(lane, (lane + 2) % 3, 9, 1), CAST);
        }
        x.evenly(1, 5);
        x.item(0, 0, 0, 256);
        is("256 is true", x.taps(0, 0), 1);
        x.item(0, 0, 0, 0);
        is("0 is false", x.taps(0, 0), 0);
        x.item(1, 1, 0, 0x12345603);
        is("the lowest bits", x.paces(1, 1, 0), 1);
        is("3", x.told(0, 2), 3);
        x.item(1, 1, 0, 255);
        is("-1 as a byte", x.paces(1, 1, 0), NOT);
    }

    private static void copies() {
        KnotRing x = begin("copy");
        is("from 4", x.copy(4, 0, 0, 0, 0), BAD);
        is("to 4", x.copy(0, 0, 4, 0, 0), BAD);
        is("from -1", x.copy(-1, 0, 0, 0, 0), BAD);
        is("to -1", x.copy(0, 0, -1, 0, 0), BAD);
        x.sheet(0, 1, 5);
        is("to nothing", x.copy(0, 0, 1, 0, 0), NULL);
        is("from nothing", x.copy(1, 0, 0, 0, 0), NULL);
        x.sheet(1, 2, 5);
        is("unlike", x.copy(0, 0, 1, 0, 0), CAST);
        is("cast ahead of index", x.copy(0, -1, 1, 0, 0), CAST);
        x.sheet(1, 1, 4);
        int[][] wrong = {{-1, 0, 1}, {0, -1, 1}, {0, 0, -1}, {0, 0, 5}, {1, 0, 5}, {2, 2, 3}, {6, 0, 0}, {0, 5, 0},
            {HIGH, 0, HIGH}, {0, HIGH, 1}, {0, 0, HIGH}, {0, 0, LOW}, {LOW, 0, LOW}};
        for (int[] w : wrong) {
            is("copy " + w[0] + " " + w[1] + " " + w[2], x.copy(0, w[0], 1, w[1], w[2]), INDEX);
        }
        is("none", x.copy(0, 5, 1, 4, 0), 0);
        for (int k = 0; k < 5; k++) {
            x.item(0, 1, k, k + 1);
        }
        is("on", x.copy(0, 0, 0, 1, 4), 4);
        lookAtItems(x, 0, new int[] {1, 1, 2, 3, 4});
        is("back", x.copy(0, 1, 0, 0, 4), 4);
        lookAtItems(x, 0, new int[] {1, 2, 3, 4, 4});
        is("to another", x.copy(0, 2, 1, 1, 3), 3);
        lookAtItems(x, 1, new int[] {0, 3, 4, 4});
        lookAtItems(x, 0, new int[] {1, 2, 3, 4, 4});
    }

    private static void lookAtItems(KnotRing x, int sheet, int[] due) {
        x.evenly(due.length, 0);
        is("paces", x.paces(sheet, 1, 0), due.length);
        for (int c = 0; c < due.length; c++) {
            is("item " + c, x.told(c, 2), due[c]);
        }
    }
}
