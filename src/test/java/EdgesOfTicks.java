/** The boundary cases of section 2, and of promises 13 to 17. */
final class EdgesOfTicks {
    private EdgesOfTicks() {
    }

    static void all() {
        notes();
        lateTicks();
        firstNotes();
        newCars();
        clauses();
        beside();
        behind();
        byNumbers();
        leastAndMost();
        limits();
        gapThen();
        tapped();
        atOnce();
        now();
        loops();
        even();
        knotSizes();
        knotsAnew();
        knotPaces();
        heads();
        order();
        first();
        tap();
        ticks();
        count();
        knot();
        firstAnswer();
    }

    private static void says(String section, String words, String... rows) {
        Rows.says(section, words, rows);
    }

    private static void notes() {
        String words = "A TICK: 1. Each CAR notes GAP, d, OTHER as they are.";
        says("2", words, "read 0 'g=4&d=-2&o=7&v=3:=0;*:=5'", "car 0 28 3", "car 0 3 1", "car 1 5 0", "ticks 1", "told 0 2 = 0");
        says("2", words, "read 0 'g=29&d=0&o=30:=0;*:=5'", "car 0 28 3", "ticks 1", "told 0 2 = 0");
        says("2", words, "read 0 'g=0&d=-9&o=0:=1;*:=0'", "read 1 '*:=5'", "car 0 29 9", "car 0 0 0", "car 1 29 4", "set 1 0 1",
            "holds 0 = 0", "ticks 1", "told 0 0 = 29", "holds 0 = 1", "told 1 0 = 5", "told 0 2 = 0");
    }

    /** Car 0 goes by one cell a tick to a cell beside a standing one: at tick t it notes OTHER 11 - t. */
    private static String[] comer(String habit, int late) {
        return new String[] {"read 0 '" + habit + "'", "read 1 '*:=0'", "car 0 0 1", "car 1 10 0", "set 1 0 1", "set 0 1 " + late};
    }

    private static void lateTicks() {
        String words = "It SEES what it noted LATE TICKS ago ";
        says("2", words, Rows.join(comer("o=8:=0;*:=1", 0), "ticks 2", "told 0 0 = 2", "ticks 1", "told 0 0 = 2", "ticks 5", "told 0 0 = 2"));
        says("2", words, Rows.join(comer("o=8:=0;*:=1", 1), "ticks 3", "told 0 0 = 3", "ticks 1", "told 0 0 = 3", "ticks 1", "told 0 0 = 4",
            "ticks 1", "told 0 0 = 5"));
        says("2", words, Rows.join(comer("o=8:=0;*:=1", 2), "ticks 4", "told 0 0 = 4", "ticks 1", "told 0 0 = 4", "ticks 1", "told 0 0 = 5"));
        says("2", words, Rows.join(comer("o=8:=0;*:=1", 3), "ticks 5", "told 0 0 = 5", "ticks 1", "told 0 0 = 5", "ticks 1", "told 0 0 = 6"));
        says("2", words, Rows.join(comer("o=8:=0;*:=1", 3), "ticks 4", "set 0 1 1", "told 0 0 = 4", "ticks 1", "told 0 0 = 5"));
        says("2", words, Rows.join(comer("o=3:=0;*:=1", 0), "ticks 7", "set 0 1 1", "ticks 1", "told 0 0 = 8", "ticks 1", "told 0 0 = 8",
            "ticks 1", "told 0 0 = 9"));
        says("2", words, Rows.join(comer("o=8:=0;*:=1", 2), "ticks 4", "set 0 1 0", "ticks 1", "told 0 0 = 5", "set 0 1 3", "ticks 1",
            "told 0 0 = 5"));
        says("2", words, "read 0 'g=6:=0;*:=1'", "read 1 '*:=0'", "car 1 27 1", "car 1 6 0", "set 1 0 1", "set 0 1 2", "ticks 4",
            "told 0 0 = 1", "ticks 1", "told 0 0 = 1", "ticks 1", "told 0 0 = 2");
    }

    private static void firstNotes() {
        String words = "(the first that it noted, if it has not so many; ";
        for (int late = 0; late <= 3; late++) {
            String goes = " = " + (late + 1);
            says("2", words, Rows.join(comer("o=10:=1;*:=0", late), "ticks " + (late + 1), "told 0 0" + goes, "ticks 1", "told 0 0" + goes,
                "ticks 1", "told 0 0" + goes));
        }
        says("2", words, Rows.join(comer("o=10:=1;*:=0", 0), "ticks 1", "set 0 1 3", "ticks 3", "told 0 0 = 4", "ticks 1", "told 0 0 = 4"));
    }

    private static void newCars() {
        String words = "a CAR that is new has noted nothing).";
        says("2", words, "read 0 'o=10:=1;*:=0'", "read 1 '*:=0'", "car 0 5 1", "car 1 10 0", "ticks 4", "evenly 1 1", "car 1 10 0", "set 1 0 1",
            "set 0 1 3", "ticks 4", "told 0 0 = 4", "ticks 1", "told 0 0 = 4");
        says("2", words, "read 0 'o=10:=1;*:=0'", "read 1 '*:=0'", "car 1 10 0", "set 0 0 1", "ticks 9", "car 0 0 0 = 1", "set 1 1 3", "ticks 4",
            "told 1 0 = 4", "ticks 1", "told 1 0 = 4");
        says("2", words, "car 0 0 5", "set 0 1 1", "round 500 = NONE", "ticks 1", "round 500 = 6", "evenly 1 5", "set 0 1 1", "round 500 = NONE");
        says("2", words, "evenly 2 5", "ticks 5", "evenly 1 5", "car 0 15 5", "set 1 1 1", "round 500 = NONE");
    }

    private static void clauses() {
        String words = "2. By what it SEES, and v, the first CLAUSE of its HABIT whose TEST holds tells what PACE it wants "
            + "(none: its PACE), and whether it would change.";
        says("2", words, "read 0 '*:=1;*:=2c'", "car 0 0 5", "ticks 1", "told 0 2 = 1", "told 0 1 = 0");
        says("2", words, "read 0 '!*:=1;*:=2c;*:=3'", "car 0 0 5", "ticks 1", "told 0 2 = 2", "told 0 1 = 1");
        says("2", words, "read 0 '!*:=1c;!*:=2c;!*:=3c;!*:=4c;!*:=5c;*:=0'", "car 0 0 5", "ticks 1", "told 0 2 = 0", "told 0 1 = 0");
        says("2", words, "read 0 '!*:=1c;!*:=2c;v=4:=3c'", "car 0 0 5", "ticks 1", "told 0 2 = 5", "told 0 1 = 0", "told 0 0 = 5");
        says("2", words, "read 0 'v=0:=1;v=1:=2;v=2:=3;v=3:=4;v=4:=5;v=5:=0'", "car 0 0 0", "set 0 1 3", "ticks 1", "told 0 2 = 1", "ticks 4",
            "told 0 2 = 5", "ticks 1", "told 0 2 = 0");
        says("2", words, "read 0 '*:=1'", "read 1 '*:=2'", "read 2 '*:=3'", "evenly 3 0", "set 1 0 1", "set 2 0 2", "ticks 1", "told 0 2 = 1",
            "told 1 2 = 2", "told 2 2 = 3");
    }

    private static void beside() {
        String words = "who would changes LANE, if the cell beside it is free, ";
        says("2", words, "read 0 '*:+0c'", "car 0 29 0", "ticks 1", "told 0 1 = 1", "ticks 1", "told 0 1 = 0", "told 0 7 = 2");
        for (int cell : new int[] {0, 29, 15}) {
            says("2", words, "read 0 '*:+0c'", "car 0 " + cell + " 0", "car 1 " + cell + " 0", "ticks 1", "told 0 1 = 0", "told 1 1 = 1",
                "told 0 7 = 0", "told 1 7 = 0");
        }
        says("2", words, "read 0 '*:+0c'", "car 0 29 0", "car 1 0 0", "car 1 28 0", "set 1 0 1", "set 2 0 1", "ticks 1", "told 0 1 = 1");
        says("2", words, "read 0 '*:+0'", "car 0 29 0", "ticks 1", "told 0 1 = 0");
        says("2", words, "ring 0 12", "read 0 '*:+0c'", "read 1 '*:=0'", "evenly 6 0", "car 1 0 0", "car 1 1 0", "car 1 2 0", "car 1 3 0",
            "car 1 4 0", "car 1 6 0", "ticks 1", "told 0 1 = 0", "told 1 1 = 0", "told 2 1 = 0", "told 3 1 = 0", "told 4 1 = 1", "told 5 1 = 1");
    }

    /** Car 0, which would change, at a cell; car 1 in the other lane at a cell with a pace; in which lane car 0 is then. */
    private static void behind(int length, int cell, int back, int pace, int lane) {
        says("2", "and the next one back there (if there is one) has between as many free cells as its PACE, or more.", "ring 0 " + length,
            "read 0 '*:+0c'", "car 0 " + cell + " 4", "car 1 " + back + " " + pace, "set 1 0 1", "ticks 1", "told 0 1 = " + lane,
            "told 0 7 = " + lane, "told 1 1 = 1");
    }

    private static void behind() {
        behind(30, 10, 6, 3, 1);
        behind(30, 10, 7, 3, 0);
        behind(30, 10, 7, 2, 1);
        behind(30, 10, 9, 0, 1);
        behind(30, 10, 9, 1, 0);
        behind(30, 10, 0, 9, 1);
        behind(30, 10, 1, 9, 0);
        behind(30, 1, 27, 3, 1);
        behind(30, 1, 27, 4, 0);
        behind(30, 0, 29, 0, 1);
        behind(30, 0, 29, 1, 0);
        behind(30, 29, 28, 0, 1);
        behind(30, 29, 0, 9, 1);
        behind(30, 10, 11, 9, 1);
        behind(12, 0, 1, 9, 1);
        behind(12, 0, 2, 9, 1);
        behind(12, 0, 3, 9, 0);
        behind(12, 11, 2, 8, 1);
        behind(99, 3, 98, 3, 1);
        behind(99, 3, 98, 4, 0);
        String words = "and the next one back there (if there is one) has between as many free cells as its PACE, or more.";
        says("2", words, "read 0 '*:+0c'", "car 0 10 4", "car 1 5 9", "car 1 8 1", "set 1 0 1", "set 2 0 1", "ticks 1", "told 0 1 = 1");
        says("2", words, "read 0 '*:+0c'", "car 0 10 4", "car 1 5 0", "car 1 8 2", "set 1 0 1", "set 2 0 1", "ticks 1", "told 0 1 = 0");
        says("2", words, "read 0 '*:+0c'", "car 0 10 4", "car 0 9 9", "set 1 0 1", "ticks 1", "told 0 1 = 1");
        says("2", words, "read 0 '*:+0c'", "car 0 10 9", "car 1 9 0", "set 1 0 1", "ticks 1", "told 0 1 = 1", "told 0 2 = 5");
        says("2", words, "read 0 '*:+0c'", "read 1 '*:=5'", "car 0 10 0", "car 1 9 0", "set 1 0 1", "ticks 1", "told 0 1 = 1");
    }

    private static void byNumbers() {
        String words = "3. CAR by CAR, by numbers: who would changes LANE, ";
        says("2", words, "read 0 '*:+0c'", "car 1 9 5", "car 0 10 5", "ticks 1", "told 0 1 = 0", "told 1 1 = 1");
        says("2", words, "read 0 '*:+0c'", "car 0 10 5", "car 1 9 5", "ticks 1", "told 0 1 = 0", "told 1 1 = 0");
        says("2", words, "read 0 '*:+0c'", "car 0 10 1", "car 0 11 1", "ticks 1", "told 0 1 = 1", "told 1 1 = 0");
        says("2", words, "read 0 '*:+0c'", "car 0 11 1", "car 0 10 1", "ticks 1", "told 0 1 = 1", "told 1 1 = 1");
        says("2", words, "read 0 '*:+0c'", "car 0 29 0", "car 0 0 0", "ticks 1", "told 0 1 = 1", "told 1 1 = 1");
        says("2", words, "read 0 '*:+0c'", "car 0 10 0", "car 1 10 0", "car 1 11 0", "ticks 1", "told 0 1 = 0", "told 1 1 = 1", "told 2 1 = 0");
    }

    private static void leastAndMost() {
        String words = "4. Each has the PACE that it wants; no less than 0, no more than MOST, ";
        says("2", words, "read 0 '*:-4'", "car 0 0 3", "ticks 1", "told 0 2 = 0", "told 0 0 = 0");
        says("2", words, "read 0 '*:-3'", "car 0 0 3", "ticks 1", "told 0 2 = 0");
        says("2", words, "read 0 '*:-2'", "car 0 0 3", "ticks 1", "told 0 2 = 1", "told 0 0 = 1");
        says("2", words, "read 0 '*:+1'", "ring 1 4", "car 0 0 3", "ticks 1", "told 0 2 = 4", "ticks 1", "told 0 2 = 4", "told 0 0 = 8");
        says("2", words, "car 0 0 4", "ring 1 3", "told 0 2 = 4", "ticks 1", "told 0 2 = 3");
    }

    private static void limits() {
        String words = "than a BOARD's LIMIT where it is (the least of these), ";
        says("2", words, "board 3 5 2", "car 0 2 5", "ticks 1", "told 0 2 = 5", "told 0 0 = 7");
        says("2", words, "board 3 5 2", "car 0 5 5", "ticks 1", "told 0 2 = 2", "told 0 0 = 7");
        says("2", words, "board 3 5 2", "car 0 1 2", "ticks 1", "told 0 2 = 2", "read 0 '*:=5'", "ticks 1", "told 0 2 = 2", "ticks 1",
            "told 0 2 = 2", "ticks 1", "told 0 2 = 5");
        says("2", words, "board 0 9 4", "board 5 9 3", "board 7 9 1", "board 9 9 2", "car 0 4 5", "car 0 12 5", "car 1 5 5", "car 1 12 5",
            "ticks 1", "told 0 2 = 4", "told 2 2 = 3");
        says("2", words, "board 0 9 4", "board 5 9 3", "board 7 9 1", "board 9 9 2", "car 0 7 5", "car 1 9 5", "ticks 1", "told 0 2 = 1",
            "told 1 2 = 1");
        says("2", words, "board 0 9 2", "board 0 9 4", "car 0 0 5", "ticks 1", "told 0 2 = 2");
        says("2", words, "board 0 9 9", "car 0 0 9", "ticks 1", "told 0 2 = 5");
        says("2", words, "board 0 9 0", "read 0 '*:=9'", "car 0 0 9", "ticks 3", "told 0 2 = 0", "told 0 0 = 0");
    }

    private static void gapThen() {
        String words = "than GAP then; ";
        says("2", words, "car 0 28 5", "car 0 4 0", "ticks 1", "told 0 2 = 5", "told 0 0 = 3", "told 0 3 = 0", "ticks 1", "told 0 2 = 0");
        says("2", words, "car 0 28 5", "car 0 3 0", "ticks 1", "told 0 2 = 4", "told 0 0 = 2");
        says("2", words, "car 0 28 5", "car 0 29 5", "ticks 1", "told 0 2 = 0", "told 1 2 = 5");
        says("2", words, "read 0 'g=0:=3c'", "car 0 0 5", "car 0 1 0", "car 1 3 0", "ticks 1", "told 0 1 = 1", "told 0 2 = 2", "told 0 0 = 2");
        says("2", words, "read 1 '*:=5c'", "car 0 28 5", "car 0 29 0", "set 1 0 1", "ticks 1", "told 1 1 = 1", "told 0 2 = 5", "told 0 0 = 3");
        says("2", words, "read 0 '*:=5'", "read 1 '*:=5c'", "car 0 28 1", "car 1 0 0", "set 1 0 1", "ticks 1", "told 1 1 = 0", "told 0 2 = 1",
            "told 0 0 = 29");
        says("2", words, "ring 0 12", "read 0 '*:=9'", "evenly 12 9", "ticks 5", "told 0 0 = 0", "told 11 0 = 11", "told 5 2 = 0");
        says("2", words, "ring 0 12", "ring 1 9", "car 0 3 9", "ticks 1", "told 0 2 = 9", "told 0 0 = 0");
    }

    private static void tapped() {
        String words = "who was TAPPED 0.";
        says("2", words, "read 0 '*:=5'", "evenly 2 5", "tap 1", "ticks 1", "told 1 2 = 0", "told 1 0 = 15", "told 0 2 = 5", "ticks 1",
            "told 1 2 = 5", "told 1 0 = 20");
        says("2", words, "read 0 '*:=5c'", "evenly 1 5", "tap 0", "ticks 1", "told 0 2 = 0", "told 0 1 = 1", "told 0 0 = 0");
    }

    private static void atOnce() {
        String words = "5. All go on so many cells at once; ";
        says("2", words, "car 0 3 5", "car 0 4 5", "ticks 1", "told 0 0 = 3", "told 1 0 = 9");
        says("2", words, "car 0 4 5", "car 0 3 5", "ticks 1", "told 0 0 = 9", "told 1 0 = 3");
        says("2", words, "ring 0 12", "evenly 4 2", "ticks 1", "told 0 0 = 2", "told 3 0 = 11", "ticks 1", "told 3 0 = 1");
        says("2", words, "car 0 29 1", "car 0 1 1", "ticks 1", "told 0 0 = 0", "told 1 0 = 2", "told 0 3 = 1");
    }

    private static void now() {
        String words = "then NOW (0 .. 99999; 0 at first) is one more.";
        says("2", words, "count 8 = 0", "ticks 1 = 1", "count 8 = 1", "ticks 2 = 3", "count 8 = 3");
        says("2", words, "499x ticks 200", "ticks 198 = 99998", "ticks 2 = FULL", "ticks 1 = 99999", "ticks 1 = FULL", "count 8 = 99999");
    }

    /** A loop at a cell, a car at a cell with a pace: what the loop counts in a tick. */
    private static void counts(int loop, int cell, int pace, int cars, int paces) {
        for (int lane = 0; lane < 2; lane++) {
            says("2", "A LOOP counts a CAR that came to its cell, or past it, in this TICK (once each), and its PACE.", "ring 1 9", "loop " + loop,
                "car " + lane + " " + cell + " " + pace, "ticks 1", "looped 0 0 = " + cars, "looped 0 1 = " + paces);
        }
    }

    private static void loops() {
        counts(10, 10, 0, 0, 0);
        counts(10, 10, 3, 0, 0);
        counts(10, 9, 0, 0, 0);
        counts(10, 9, 1, 1, 1);
        counts(10, 9, 9, 1, 9);
        counts(10, 7, 2, 0, 0);
        counts(10, 7, 3, 1, 3);
        counts(10, 7, 4, 1, 4);
        counts(10, 1, 9, 1, 9);
        counts(10, 0, 9, 0, 0);
        counts(10, 11, 9, 0, 0);
        counts(0, 29, 1, 1, 1);
        counts(0, 28, 1, 0, 0);
        counts(0, 27, 5, 1, 5);
        counts(0, 0, 9, 0, 0);
        counts(29, 28, 1, 1, 1);
        counts(29, 28, 5, 1, 5);
        counts(29, 29, 5, 0, 0);
        counts(3, 28, 4, 0, 0);
        counts(3, 28, 5, 1, 5);
        String words = "A LOOP counts a CAR that came to its cell, or past it, in this TICK (once each), and its PACE.";
        says("2", words, "ring 0 12", "ring 1 9", "loop 4", "car 0 5 9", "ticks 1", "looped 0 0 = 0", "ticks 1", "looped 0 0 = 1", "ticks 1",
            "looped 0 0 = 2", "looped 0 1 = 18");
        says("2", words, "loop 10", "loop 11", "car 0 9 3", "car 1 8 4", "car 1 9 0", "ticks 1", "looped 0 0 = 1", "looped 0 1 = 3",
            "looped 1 0 = 1", "looped 1 1 = 3", "told 1 2 = 0");
        says("2", words, "read 0 '*:=0c'", "loop 10", "car 0 10 0", "ticks 1", "told 0 1 = 1", "looped 0 0 = 0");
        says("2", words, "loop 10", "car 0 9 3", "tap 0", "ticks 1", "looped 0 0 = 0", "looped 0 1 = 0");
        says("2", words, "car 0 9 3", "ticks 1", "loop 10", "looped 0 0 = 0", "ticks 1", "looped 0 0 = 0", "ticks 9", "looped 0 0 = 1");
    }

    private static void even() {
        String words = "EVEN are all, if they have one PACE above 0 (no CARS: EVEN).";
        says("2", words, "count 9 = 1", "ticks 1", "count 9 = 1", "evens 0 = 0");
        says("2", words, "car 0 0 0", "count 9 = 0", "evens 0 = NONE");
        says("2", words, "car 0 0 1", "count 9 = 1", "evens 0 = 0", "car 1 0 1", "count 9 = 1", "car 1 5 2", "count 9 = 0", "evens 0 = NONE");
        says("2", words, "evenly 12 9", "count 9 = 1", "evenly 12 0", "count 9 = 0", "evenly 12 1", "count 9 = 1");
        says("2", words, "evenly 11 1", "car 1 0 0", "count 9 = 0");
        says("2", words, "car 1 0 0", "car 0 0 1", "count 9 = 0");
    }

    private static void knotSizes() {
        String words = "A KNOT: two CARS or more of a LANE with PACE 0 or 1, each AHEAD of the next, as many as are so; ";
        says("2", words, "count 6 = 0", "count 7 = 0", "car 0 0 0", "count 6 = 0", "count 7 = 0", "car 1 0 0", "count 6 = 0", "count 7 = 0",
            "car 0 15 1", "count 6 = 1", "count 7 = 2", "knot 0 1 = 2", "car 1 29 1", "count 6 = 2", "count 7 = 4", "knot 1 1 = 2");
        says("2", words, "evenly 12 0", "count 6 = 1", "count 7 = 12", "knot 0 1 = 12", "knot 0 0 = 0", "knot 1 0 = NONE");
        says("2", words, "evenly 11 1", "car 0 29 2", "count 6 = 1", "count 7 = 11", "knot 0 1 = 11", "knot 0 0 = 10");
        says("2", words, "car 0 0 0", "car 0 5 2", "car 0 10 0", "car 0 15 2", "count 6 = 0", "car 0 20 1", "car 0 21 0", "count 6 = 1",
            "count 7 = 3", "knot 0 0 = 0", "knot 0 1 = 3");
        says("2", words, "car 0 0 0", "car 0 5 2", "car 0 10 0", "count 6 = 1", "knot 0 0 = 0", "knot 0 1 = 2", "told 2 4 = 0");
    }

    /** What was found for cars that are gone tells nothing of those that are there. */
    private static void knotsAnew() {
        String words = "each AHEAD of the next, as many as are so; ";
        says("2", words, "car 0 0 0", "car 0 10 0", "car 0 9 5", "count 6 = 1", "knot 0 1 = 2", "evenly 3 0", "sheet 0 1 3", "item 0 1 2 9",
            "paces 0 1 0", "count 6 = 1", "knot 0 0 = 1", "knot 0 1 = 2");
        says("2", words, "evenly 3 0", "count 7 = 3", "evenly 2 0", "count 7 = 2", "evenly 1 0", "count 7 = 0", "car 1 9 0", "car 1 0 0", "count 7 = 2");
    }

    private static void knotPaces() {
        String words = "with PACE 0 or 1, ";
        String[] paces = {"0 0 1", "0 1 1", "1 0 1", "1 1 1", "1 2 0", "2 1 0", "0 2 0", "2 0 0", "2 2 0", "0 9 0"};
        for (String p : paces) {
            String[] two = p.split(" ");
            says("2", words, "car 0 3 " + two[0], "car 0 4 " + two[1], "car 0 20 5", "count 6 = " + two[2], "count 7 = " + 2 * (two[2].charAt(0) - '0'));
        }
    }

    private static void heads() {
        String words = "its HEAD: the one whose AHEAD is none of it (all of a LANE: the least number).";
        says("2", words, "car 0 3 0", "car 0 4 1", "car 0 20 5", "knot 0 0 = 1", "knot 0 1 = 2");
        says("2", words, "car 0 4 0", "car 0 3 1", "car 0 20 5", "knot 0 0 = 0");
        says("2", words, "car 0 0 1", "car 0 29 1", "car 0 28 0", "car 0 15 2", "knot 0 0 = 0", "knot 0 1 = 3");
        says("2", words, "car 0 28 1", "car 0 0 1", "car 0 29 0", "car 0 15 2", "knot 0 0 = 1", "knot 0 1 = 3");
        says("2", words, "car 1 20 5", "car 0 25 0", "car 0 5 1", "car 0 15 1", "knot 0 0 = 1", "knot 0 1 = 3");
        says("2", words, "car 1 20 0", "car 1 25 0", "knot 0 0 = 0", "knot 0 1 = 2");
        says("2", words, "car 0 2 5", "car 1 20 0", "car 1 10 0", "car 1 0 1", "knot 0 0 = 1", "knot 0 1 = 3");
    }

    private static void order() {
        String words = "KNOTS are in order of their HEADS' cells, of like ones by LANES.";
        says("2", words, "car 0 20 0", "car 0 19 0", "car 0 25 5", "car 0 1 0", "car 0 29 0", "car 0 5 5", "count 6 = 2", "knot 0 0 = 3",
            "knot 1 0 = 0");
        says("2", words, "car 1 7 0", "car 1 6 1", "car 0 7 0", "car 0 6 1", "car 1 20 2", "car 0 20 2", "knot 0 0 = 2", "knot 1 0 = 0",
            "knot 2 0 = NONE");
        says("2", words, "car 1 7 0", "car 1 6 1", "car 0 8 0", "car 0 6 1", "car 1 20 2", "car 0 20 2", "knot 0 0 = 0", "knot 1 0 = 2");
        says("2", words, "car 1 7 0", "car 0 7 0", "car 1 17 0", "car 0 17 0", "knot 0 0 = 1", "knot 1 0 = 0");
        says("2", words, "car 1 29 0", "car 0 29 0", "car 1 0 0", "car 0 0 0", "knot 0 0 = 1", "knot 1 0 = 0");
        says("2", words, "car 0 29 0", "car 0 28 1", "car 0 23 1", "car 0 22 0", "car 0 17 0", "car 0 16 1", "car 0 26 2", "car 0 20 2",
            "car 0 14 2", "car 1 20 0", "car 1 19 0", "car 1 18 3", "count 6 = 4", "knot 0 0 = 4", "knot 1 0 = 9", "knot 2 0 = 2",
            "knot 3 0 = 0", "knot 4 0 = NONE", "count 7 = 8", "knot 3 1 = 2");
        says("2", words, "ring 0 12", "car 0 11 1", "car 0 10 1", "car 0 9 2", "car 0 8 1", "car 0 7 1", "car 0 6 2", "car 0 5 1", "car 0 4 1",
            "car 0 3 2", "car 0 2 1", "car 0 1 1", "car 0 0 2", "count 6 = 4", "knot 0 0 = 9", "knot 1 0 = 6", "knot 2 0 = 3", "knot 3 0 = 0",
            "knot 4 0 = NONE");
    }

    private static void first() {
        String words = "FIRST is the CAR that first had PACE 0 since all were EVEN the latest ";
        says("2", words, "evenly 3 2", "tap 1", "ticks 1", "first = 1", "tap 0", "ticks 1", "first = 1", "ticks 9", "first = 1");
        says("2", words, "read 0 '*:=2'", "evenly 3 2", "tap 1", "ticks 1", "first = 1", "ticks 1", "first = NONE", "tap 0", "ticks 1",
            "first = 0", "ticks 1", "first = NONE");
        says("2", words, "read 0 '*:=2'", "read 1 '*:=1'", "evenly 3 2", "set 2 0 1", "tap 1", "ticks 1", "first = 1", "ticks 1", "first = 1",
            "count 9 = 0", "tap 0", "ticks 1", "first = 1");
        says("2", words, "car 0 5 0", "first = NONE", "ticks 1", "first = 0", "car 0 6 0", "ticks 1", "first = 0");
        words = "(both at a TICK's end; ";
        says("2", words, "car 0 5 0", "count 9 = 0", "first = NONE");
        says("2", words, "evenly 2 3", "sheet 0 1 2", "tap 1", "ticks 1", "first = 1", "item 0 1 0 3", "item 0 1 1 3", "paces 0 1 0",
            "count 9 = 1", "first = 1", "tap 0", "ticks 1", "first = 1");
        says("2", words, "evenly 2 3", "ticks 1", "sheet 0 1 2", "item 0 1 0 3", "paces 0 1 0", "told 1 2 = 0", "first = NONE", "read 0 '*:=3'",
            "ticks 1", "first = NONE");
        says("2", words, "evenly 2 3", "tap 1", "first = NONE", "ticks 1", "first = 1");
        words = "the least of one TICK; ";
        says("2", words, "evenly 12 2", "tap 11", "tap 7", "ticks 1", "first = 7");
        says("2", words, "evenly 12 2", "tap 11", "ticks 1", "first = 11", "tap 0", "ticks 1", "first = 11");
        says("2", words, "evenly 12 0", "ticks 1", "first = 0");
        words = "evenly() forgets it).";
        says("2", words, "evenly 3 2", "tap 1", "ticks 1", "first = 1", "evenly 3 0", "first = NONE", "ticks 1", "first = 0");
        says("2", words, "evenly 3 2", "tap 1", "ticks 1", "evenly 0 2 = BAD", "first = 1", "evenly 3 10 = BAD", "first = 1", "car 1 0 2",
            "first = 1", "evenly 1 1", "first = NONE");
    }

    private static void tap() {
        says("P13", "A CAR is TAPPED (in the next TICK): whether it was already (1, 0).", "evenly 12 2", "tap 11 = 0", "tap 11 = 1", "tap 0 = 0",
            "tap 0 = 1", "tap 11 = 1", "ticks 1", "told 11 2 = 0", "told 0 2 = 0", "told 1 2 = 2", "tap 11 = 0", "tap 0 = 0");
        says("P13", "(in the next TICK)", "read 0 '*:=2'", "evenly 2 2", "tap 0", "ticks 2", "told 0 6 = 2", "told 1 6 = 4");
        says("P13", "BAD.", "tap 0 = BAD", "evenly 2 2", "tap 2 = BAD", "tap -1 = BAD", "tap LOW = BAD", "tap HIGH = BAD", "tap 1 = 0");
    }

    private static void ticks() {
        String words = "n TICKS (1 .. 200): NOW. BAD;";
        says("P14", words, "ticks 0 = BAD", "ticks 201 = BAD", "ticks -1 = BAD", "ticks LOW = BAD", "ticks HIGH = BAD", "ticks 1 = 1",
            "ticks 200 = 201", "ticks 201 = BAD", "count 8 = 201");
        says("P14", words, "car 0 0 1", "tap 0", "ticks 0 = BAD", "ticks 201 = BAD", "told 0 0 = 0", "tap 0 = 1");
        words = "FULL: NOW would be above 99999.";
        says("P14", words, "499x ticks 200", "ticks 200 = FULL", "count 8 = 99800", "ticks 201 = BAD", "ticks 199 = 99999", "ticks 1 = FULL",
            "ticks 200 = FULL", "ticks 0 = BAD");
        says("P14", words, "car 0 0 5", "read 0 '*:=5'", "tap 0", "image 0", "499x ticks 200", "ticks 199 = 99999", "told 0 6 = 499990",
            "ticks 1 = FULL", "told 0 6 = 499990", "restore 0", "ticks 200 = 200");
    }

    private static void count() {
        says("P15", "BAD.", "count -1 = BAD", "count 10 = BAD", "count LOW = BAD", "count HIGH = BAD");
        says("P15", "How many: 0 CARS, 1 CLAUSES of HABIT 0, 2 of 1, 3 of 2, 4 BOARDS, 5 LOOPS, 6 KNOTS, 7 CARS in KNOTS, 8 NOW, 9 whether EVEN "
            + "(1, 0).", "read 0 '*:=0'", "read 1 '*:=0;*:=0'", "read 2 '*:=0;*:=0;*:=0'", "evenly 12 1", "4x board 0 0 9", "3x loop 5",
            "ticks 200", "count 0 = 12", "count 1 = 1", "count 2 = 2", "count 3 = 3", "count 4 = 4", "count 5 = 3", "count 6 = 1", "count 7 = 12",
            "count 8 = 200", "count 9 = 0");
        says("P15", "6 KNOTS, 7 CARS in KNOTS, 8 NOW, 9 whether EVEN (1, 0).", "evenly 12 2", "count 6 = 0", "count 7 = 0", "count 9 = 1",
            "read 0 '*:=2'", "tap 3", "ticks 1", "count 9 = 0", "count 8 = 1");
    }

    private static void knot() {
        says("P16", "BAD: also i below 0;", "knot -1 0 = BAD", "knot -1 1 = BAD", "knot LOW 0 = BAD", "knot 0 2 = BAD", "knot 0 -1 = BAD",
            "knot 0 LOW = BAD", "knot 0 HIGH = BAD", "evenly 2 0", "knot -1 0 = BAD", "knot 0 2 = BAD", "knot 1 2 = BAD", "knot 0 0 = 0");
        says("P16", "NONE.", "knot 0 0 = NONE", "knot HIGH 1 = NONE", "evenly 2 0", "knot 0 1 = 2", "knot 1 0 = NONE", "knot 1 1 = NONE",
            "knot HIGH 0 = NONE");
        says("P16", "Of KNOT i: 0 HEAD, 1 how many CARS.", "car 0 5 0", "car 0 9 1", "car 0 12 1", "car 0 20 2", "car 1 11 0", "car 1 10 0",
            "knot 0 0 = 4", "knot 0 1 = 2", "knot 1 0 = 2", "knot 1 1 = 3", "knot 2 0 = NONE");
    }

    private static void firstAnswer() {
        says("P17", "FIRST. NONE.", "first = NONE", "evenly 3 2", "first = NONE", "ticks 5", "first = NONE", "tap 2", "first = NONE", "ticks 1",
            "first = 2", "first = 2", "evenly 3 2", "first = NONE");
        says("P17", "FIRST. NONE.", "car 0 0 0", "ticks 1", "first = 0");
    }
}
