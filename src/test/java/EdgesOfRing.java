/** The boundary cases of section 1 but for the texts, and of promises 1 to 6 and 10 to 12. */
final class EdgesOfRing {
    private EdgesOfRing() {
    }

    static void all() {
        newObject();
        length();
        lanes();
        cars();
        carsOwn();
        ahead();
        gap();
        other();
        most();
        boards();
        whereBoardsAre();
        loops();
        sheets();
        ring();
        car();
        evenly();
        evenlyAnew();
        set();
        told();
        board();
        loop();
        looped();
    }

    private static void says(String section, String words, String... rows) {
        Rows.says(section, words, rows);
    }

    private static void newObject() {
        String words = "No CARS.";
        says("P1", words, "count 0 = 0", "count 1 = 0", "count 2 = 0", "count 3 = 0", "count 4 = 0", "count 5 = 0",
            "count 6 = 0", "count 7 = 0", "count 8 = 0", "count 9 = 1", "first = NONE", "knot 0 0 = NONE", "knot 0 1 = NONE",
            "looped 0 0 = BAD", "restore 0 = NONE", "restore 1 = NONE", "round 1 = 1", "evens 0 = 0");
        says("P1", words, "set 0 0 0 = BAD", "set 0 1 0 = BAD", "told 0 0 = BAD", "told 0 7 = BAD", "holds 0 = BAD", "tap 0 = BAD",
            "cost 0 1 0 = -100001", "cost 0 1 -1 = -100001", "after 0 1 = BAD", "calmed 0 1 = BAD");
        says("P1", words, "text '' = 0", "type 0x2a 1 = 1");
        says("P1", words, "ticks 200 = 200", "count 9 = 1", "first = NONE", "count 0 = 0");
    }

    private static void length() {
        String words = "THE RING has LENGTH cells (12 .. 99; 30 at first)";
        says("1", words, "ring 0 30 = 30");
        says("1", words, "ring 0 12 = 30", "ring 0 11 = BAD", "ring 0 99 = 12", "ring 0 100 = BAD", "ring 0 0 = BAD",
            "ring 0 -30 = BAD", "ring 0 LOW = BAD", "ring 0 HIGH = BAD", "ring 0 13 = 99", "ring 0 98 = 13");
        says("1", words, "car 1 30 0 = BAD", "car 1 29 0 = 0");
        says("1", words, "ring 0 12", "car 0 12 0 = BAD", "car 0 11 0 = 0");
        says("1", words, "ring 0 99", "car 0 99 0 = BAD", "car 0 98 0 = 0");
    }

    private static void lanes() {
        String words = "in each of two LANES (0, 1), gone round upward.";
        says("1", words, "car -1 0 0 = BAD", "car 2 0 0 = BAD", "car LOW 0 0 = BAD", "car HIGH 0 0 = BAD", "car 0 0 0 = 0",
            "car 1 0 0 = 1", "told 0 1 = 0", "told 1 1 = 1");
        says("1", words, "car 0 28 1", "car 1 29 1", "ticks 1", "told 0 0 = 29", "told 1 0 = 0", "ticks 1", "told 0 0 = 0",
            "told 1 0 = 1", "told 0 6 = 2");
        says("1", words, "ring 0 12", "car 0 11 5", "ticks 1", "told 0 0 = 4", "ticks 2", "told 0 0 = 2", "told 0 6 = 15");
        says("1", words, "ring 0 12", "ring 1 9", "car 1 4 9", "ticks 1", "told 0 0 = 1", "told 0 6 = 9");
        says("1", words, "ring 0 99", "ring 1 9", "car 1 90 9", "ticks 1", "told 0 0 = 0", "ticks 10", "told 0 0 = 90",
            "ticks 1", "told 0 0 = 0", "told 0 6 = 108");
    }

    private static void cars() {
        String[] twelve = new String[12];
        for (int c = 0; c < 12; c++) {
            twelve[c] = "car " + c % 2 + " " + (29 - c) + " " + c % 10 + " = " + c;
        }
        says("1", "CARS 0 .. 11, as they come: ", Rows.join(twelve, "count 0 = 12", "car 0 0 0 = FULL", "car 1 17 9 = FULL",
            "told 0 0 = 29", "told 11 0 = 18", "told 11 1 = 1", "told 11 2 = 1", "told 12 0 = BAD", "told -1 0 = BAD", "tap 11 = 0",
            "tap 12 = BAD"));
        String words = "at a cell of a LANE where none is, ";
        says("1", words, "car 0 7 3 = 0", "car 0 7 3 = NOT", "car 0 7 0 = NOT", "car 1 7 3 = 1", "car 1 7 4 = NOT", "car 0 6 0 = 2",
            "car 0 8 0 = 3", "told 0 2 = 3");
        says("1", words, "car 0 0 0 = 0", "car 0 29 0 = 1", "car 0 29 1 = NOT", "car 0 0 1 = NOT", "car 1 0 0 = 2");
        says("1", words, "car 0 28 3", "ticks 1", "car 0 28 0 = 1", "car 0 1 0 = NOT");
    }

    private static void carsOwn() {
        says("1", "PACE 0 .. 9, ", "car 0 0 -1 = BAD", "car 0 0 10 = BAD", "car 0 0 LOW = BAD", "car 0 0 HIGH = BAD", "car 0 0 0 = 0",
            "car 0 1 9 = 1", "told 0 2 = 0", "told 1 2 = 9");
        says("1", "a HABIT (0 .. 2; 0 at first), ", "car 0 0 0", "set 0 0 0 = 0", "set 0 0 2 = 0", "set 0 0 3 = BAD", "set 0 0 -1 = BAD",
            "set 0 0 LOW = BAD", "set 0 0 HIGH = BAD", "set 0 0 1 = 2", "set 0 0 0 = 1");
        says("1", "LATE (0 .. 3; 0 at first).", "car 0 0 0", "set 0 1 0 = 0", "set 0 1 3 = 0", "set 0 1 4 = BAD", "set 0 1 -1 = BAD",
            "set 0 1 LOW = BAD", "set 0 1 HIGH = BAD", "set 0 1 2 = 3", "set 0 1 1 = 2", "set 0 1 0 = 1");
        says("1", "a HABIT (0 .. 2; 0 at first), LATE (0 .. 3; 0 at first).", "evenly 2 0", "set 1 0 2 = 0", "set 1 1 3 = 0",
            "set 0 0 1 = 0", "set 0 1 1 = 0", "evenly 2 0", "set 1 0 0 = 0", "set 1 1 0 = 0");
    }

    private static void ahead() {
        String words = "AHEAD of one is the next one on in its LANE (itself, if it is alone), ";
        says("1", words, "car 0 29 0", "told 0 4 = 0", "car 1 0 0", "told 0 4 = 0", "told 1 4 = 1", "car 0 0 0", "told 0 4 = 2",
            "told 2 4 = 0", "car 0 28 0", "told 3 4 = 0", "told 0 4 = 2", "told 2 4 = 3");
        says("1", words, "ring 0 12", "evenly 12 0", "told 11 4 = 0", "told 0 4 = 1", "told 10 4 = 11");
        says("1", words, "ring 0 99", "car 1 98 0", "car 1 97 0", "told 0 4 = 1", "told 1 4 = 0");
    }

    private static void gap() {
        String words = "GAP the free cells between (alone: LENGTH less 1).";
        says("1", words, "car 0 29 0", "told 0 3 = 29", "car 1 0 0", "told 0 3 = 29", "told 1 3 = 29", "car 0 0 0", "told 0 3 = 0",
            "told 2 3 = 28", "car 0 28 0", "told 3 3 = 0", "told 2 3 = 27");
        says("1", words, "ring 0 12", "car 1 5 0", "told 0 3 = 11", "car 1 4 0", "told 0 3 = 10", "told 1 3 = 0");
        says("1", words, "ring 0 99", "car 0 98 0", "told 0 3 = 98", "car 0 97 0", "told 0 3 = 97", "told 1 3 = 0");
        says("1", words, "ring 0 12", "evenly 12 0", "told 11 3 = 0", "told 0 3 = 0");
    }

    private static void other() {
        String words = "OTHER: the free cells of the other LANE from the cell beside it (that counts) on to the first that is not "
            + "(all free: LENGTH).";
        says("1", words, "car 0 29 0", "told 0 5 = 30", "car 1 28 0", "told 0 5 = 29", "told 1 5 = 1", "car 1 0 0", "told 0 5 = 1",
            "told 2 5 = 29", "car 1 29 0", "told 0 5 = 0", "told 3 5 = 0");
        says("1", words, "car 1 3 0", "car 1 4 0", "car 1 2 0", "told 0 5 = 30", "told 1 5 = 30");
        says("1", words, "ring 0 12", "car 0 0 0", "told 0 5 = 12", "car 1 11 0", "told 0 5 = 11", "told 1 5 = 1");
        says("1", words, "ring 0 99", "car 1 98 0", "told 0 5 = 99", "car 0 97 0", "told 0 5 = 98", "told 1 5 = 1");
    }

    private static void most() {
        String words = "MOST is the greatest PACE (1 .. 9; 5 at first).";
        says("1", words, "ring 1 9 = 5", "ring 1 10 = BAD", "ring 1 1 = 9", "ring 1 0 = BAD", "ring 1 -1 = BAD", "ring 1 LOW = BAD",
            "ring 1 HIGH = BAD", "ring 1 5 = 1");
        says("1", words, "car 0 0 9", "ticks 1", "told 0 2 = 5");
        says("1", words, "read 0 '*:+1'", "car 0 0 4", "ticks 1", "told 0 2 = 5", "ticks 1", "told 0 2 = 5");
        says("1", words, "ring 1 1", "car 0 0 9", "told 0 2 = 9", "ticks 1", "told 0 2 = 1", "told 0 0 = 1");
        says("1", words, "ring 1 9", "read 0 '*:+9'", "car 0 0 9", "ticks 1", "told 0 2 = 9", "told 0 0 = 9");
    }

    private static void boards() {
        says("1", "BOARDS 0 .. 3, as they come: ", "board 0 0 5 = 0", "board 0 0 5 = 1", "board 1 0 5 = 2", "board 29 29 0 = 3",
            "board 0 0 5 = FULL", "count 4 = 4", "car 0 29 5", "ticks 1", "told 0 2 = 0");
        says("1", "a LIMIT (0 .. 9).", "board 0 0 -1 = BAD", "board 0 0 10 = BAD", "board 0 0 LOW = BAD", "board 0 0 HIGH = BAD",
            "board 0 0 0 = 0", "board 1 1 9 = 1", "ring 1 9", "car 0 0 9", "car 1 1 9", "ticks 1", "told 0 2 = 0", "told 1 2 = 9");
    }

    private static void whereBoardsAre() {
        limits("28 1", "27 5", "28 2", "29 2", "0 2", "1 2", "2 5", "15 5");
        limits("10 12", "9 5", "10 2", "11 2", "12 2", "13 5", "0 5", "29 5");
        limits("7 7", "6 5", "7 2", "8 5");
        limits("8 7", "7 2", "8 2", "0 2", "29 2");
        limits("0 29", "0 2", "15 2", "29 2");
        limits("29 0", "28 5", "29 2", "0 2", "1 5");
        limits("0 0", "29 5", "0 2", "1 5");
        limits("29 29", "28 5", "29 2", "0 5");
    }

    /** Each of the cells, in either lane, with the pace that a car there has behind a tick. */
    private static void limits(String fromTo, String... cells) {
        for (String cellPace : cells) {
            String[] c = cellPace.split(" ");
            for (int lane = 0; lane < 2; lane++) {
                says("1", "from a cell to another, on round, ends counted", "board " + fromTo + " 2", "car " + lane + " " + c[0] + " 5",
                    "ticks 1", "told 0 2 = " + c[1]);
            }
        }
    }

    private static void loops() {
        says("1", "LOOPS 0 .. 3, as they come, at a cell, of both LANES.", "loop 0 = 0", "loop 29 = 1", "loop 29 = 2", "loop 5 = 3",
            "loop 6 = FULL", "count 5 = 4", "car 0 28 1", "car 1 27 2", "ticks 1", "looped 0 0 = 0", "looped 1 0 = 2", "looped 2 0 = 2",
            "looped 1 1 = 3", "looped 3 0 = 0", "ticks 1", "looped 0 0 = 2", "looped 0 1 = 3", "looped 1 0 = 2");
    }

    private static void sheets() {
        String words = "SHEETS 0 .. 3 hold nothing (at first), or a row of a LANE: 0 booleans, 1 bytes, 2 ints, of 0 to 36 items (0 at first).";
        says("1", words, "drop 0 = NULL", "drop 1 = NULL", "drop 2 = NULL", "drop 3 = NULL", "drop 4 = BAD", "drop -1 = BAD");
        says("1", words, "sheet 0 0 36 = 36", "sheet 1 1 36 = 36", "sheet 2 2 36 = 36", "sheet 3 0 0 = 0", "sheet 4 0 0 = BAD",
            "sheet -1 0 0 = BAD", "item 0 0 35 1 = 1", "item 0 0 36 1 = INDEX", "item 1 1 35 1 = 1", "item 1 1 36 1 = INDEX",
            "item 2 2 35 1 = 1", "item 2 2 36 1 = INDEX", "item 3 0 0 1 = INDEX");
        says("1", words, "evenly 12 9", "sheet 0 0 36", "taps 0 24 = 0", "tap 11 = 0", "sheet 1 1 12", "paces 1 1 0 = 12", "told 0 2 = 0",
            "told 11 2 = 0", "evenly 12 9", "sheet 2 2 12", "paces 2 2 0 = 12", "told 0 2 = 0", "told 11 2 = 0");
    }

    private static void ring() {
        says("P2", "LENGTH (0), MOST (1): what it was. BAD;", "ring 2 12 = BAD", "ring -1 12 = BAD", "ring 2 5 = BAD", "ring HIGH 5 = BAD",
            "ring LOW 5 = BAD", "ring 0 5 = BAD", "ring 1 12 = BAD", "ring 0 12 = 30", "ring 0 12 = 12", "ring 1 9 = 5", "ring 1 9 = 9");
        String words = "NOT: LENGTH, and there are CARS, BOARDS, LOOPS.";
        says("P2", words, "car 0 0 0", "ring 0 30 = NOT", "ring 0 12 = NOT", "ring 0 99 = NOT", "ring 0 11 = BAD", "ring 0 100 = BAD",
            "ring 1 7 = 5", "ring 1 5 = 7", "ring 2 30 = BAD");
        says("P2", words, "evenly 1 1", "ring 0 12 = NOT");
        says("P2", words, "board 0 0 0", "ring 0 12 = NOT", "ring 0 30 = NOT", "ring 1 7 = 5");
        says("P2", words, "loop 0", "ring 0 12 = NOT", "ring 0 30 = NOT", "ring 1 7 = 5");
        says("P2", words, "image 0", "car 0 0 0", "board 0 0 0", "loop 0", "restore 0", "ring 0 12 = 30");
    }

    private static void car() {
        String words = "A CAR: its number. BAD: also beyond THE RING;";
        says("P3", words, "car 0 30 0 = BAD", "car 0 -1 0 = BAD", "car 0 LOW 0 = BAD", "car 0 HIGH 0 = BAD", "car 1 30 0 = BAD",
            "car 1 -1 0 = BAD", "car 0 29 0 = 0", "car 1 0 0 = 1");
        says("P3", words, "ring 0 31", "car 0 31 0 = BAD", "car 0 30 0 = 0");
        says("P3", "NOT: one is there;", "car 1 3 2", "car 1 3 2 = NOT", "car 1 3 10 = BAD", "car 1 3 -1 = BAD", "car 0 3 2 = 1");
        says("P3", "FULL: 12.", "evenly 11 1", "car 1 0 0 = 11", "car 1 1 0 = FULL", "car 1 30 0 = BAD", "car 2 1 0 = BAD",
            "car 1 1 10 = BAD", "count 0 = 12");
        says("P3", "NOT: one is there; FULL: 12.", "evenly 12 1", "car 0 0 1 = NOT", "car 0 1 1 = FULL");
    }

    private static void evenly() {
        says("P4", "BAD: n not 1 .. 12, more than LENGTH.", "evenly 0 1 = BAD", "evenly 13 1 = BAD", "evenly -1 1 = BAD",
            "evenly LOW 1 = BAD", "evenly HIGH 1 = BAD", "evenly 1 1 = 1", "evenly 12 1 = 12", "evenly 13 1 = BAD", "evenly 0 1 = BAD");
        says("P4", "BAD: n not 1 .. 12, more than LENGTH.", "ring 0 12", "evenly 13 1 = BAD", "evenly 12 1 = 12", "told 11 0 = 11");
        says("P4", "with a PACE;", "evenly 2 -1 = BAD", "evenly 2 10 = BAD", "evenly 2 LOW = BAD", "evenly 2 HIGH = BAD", "evenly 2 0 = 2",
            "told 1 2 = 0", "evenly 2 9 = 2", "told 0 2 = 9", "told 1 2 = 9", "evenly 2 10 = BAD");
        places(99, 12, 0, 8, 16, 24, 33, 41, 49, 57, 66, 74, 82, 90);
        places(12, 12, 0, 1, 2, 3, 4, 5, 6, 7, 8, 9, 10, 11);
        places(12, 11, 0, 1, 2, 3, 4, 5, 6, 7, 8, 9, 10);
        places(30, 7, 0, 4, 8, 12, 17, 21, 25);
        places(99, 2, 0, 49);
        places(99, 1, 0);
    }

    private static void places(int length, int n, int... cells) {
        String[] rows = {"ring 0 " + length, "evenly " + n + " 3 = " + n, "count 0 = " + n, "told " + n + " 0 = BAD"};
        for (int c = 0; c < n; c++) {
            rows = Rows.join(rows, "told " + c + " 0 = " + cells[c], "told " + c + " 1 = 0", "told " + c + " 2 = 3");
        }
        says("P4", "CARS 0 .. n - 1 are made, as evenly as can be (CAR i at cell i LENGTH by n, cut) in LANE 0, with a PACE;", rows);
    }

    private static void evenlyAnew() {
        String words = "all that were are gone: n.";
        says("P4", words, "car 1 5 3", "car 0 7 2", "car 0 9 0", "evenly 1 0 = 1", "count 0 = 1", "told 0 5 = 30", "told 0 3 = 29",
            "told 1 0 = BAD", "told 2 0 = BAD", "car 1 5 0 = 1", "car 0 7 0 = 2");
        says("P4", words, "read 0 '*:=1c'", "car 0 5 3", "set 0 1 3", "ticks 3", "told 0 6 = 3", "told 0 7 = 3", "tap 0", "evenly 1 2 = 1",
            "told 0 6 = 0", "told 0 7 = 0", "tap 0 = 0", "set 0 1 0 = 0", "set 0 0 0 = 0", "count 8 = 3");
        says("P4", words, "evenly 12 1", "evenly 12 2 = 12", "told 11 2 = 2", "car 1 0 0 = FULL", "evenly 11 2 = 11", "car 1 0 0 = 11");
        says("P4", words, "board 0 3 2", "loop 3", "ring 1 7", "read 2 '*:=1'", "evenly 2 1", "count 4 = 1", "count 5 = 1", "count 3 = 1",
            "ring 1 5 = 7");
    }

    private static void set() {
        String words = "HABIT (0), LATE (1) of a CAR: what it was. BAD.";
        says("P5", words, "set 0 0 0 = BAD", "evenly 2 0", "set -1 0 0 = BAD", "set 2 0 0 = BAD", "set 2 1 0 = BAD", "set LOW 0 0 = BAD",
            "set HIGH 1 0 = BAD", "set 0 -1 0 = BAD", "set 0 2 0 = BAD", "set 0 LOW 0 = BAD", "set 0 HIGH 0 = BAD", "set 1 0 2 = 0",
            "set 1 1 3 = 0", "set 0 0 3 = BAD", "set 0 1 4 = BAD", "set 0 0 1 = 0", "set 0 1 2 = 0", "set 1 0 0 = 2", "set 1 1 0 = 3");
        says("P5", words, "evenly 12 0", "set 11 0 2 = 0", "set 11 1 3 = 0", "set 12 0 0 = BAD", "set 12 1 0 = BAD");
    }

    private static void told() {
        says("P6", "BAD.", "told 0 0 = BAD", "evenly 2 0", "told -1 0 = BAD", "told 2 0 = BAD", "told LOW 0 = BAD", "told HIGH 0 = BAD",
            "told 0 -1 = BAD", "told 0 8 = BAD", "told 0 LOW = BAD", "told 0 HIGH = BAD", "told 1 8 = BAD", "told 1 7 = 0", "told 1 0 = 15");
        says("P6", "Of a CAR: 0 cell, 1 LANE, 2 PACE, 3 GAP, 4 AHEAD, 5 OTHER,", "ring 0 20", "car 0 18 1", "car 0 3 2", "car 1 1 3",
            "car 1 17 4", "told 0 0 = 18", "told 0 1 = 0", "told 0 2 = 1", "told 0 3 = 4", "told 0 4 = 1", "told 0 5 = 3", "told 2 0 = 1",
            "told 2 1 = 1", "told 2 2 = 3", "told 2 3 = 15", "told 2 4 = 3", "told 2 5 = 2", "told 3 5 = 1");
        says("P6", "6 how many cells it went in all,", "car 0 29 4", "told 0 6 = 0", "ticks 200", "told 0 6 = 800", "tap 0", "ticks 1",
            "told 0 6 = 800", "ticks 1", "told 0 6 = 800");
        says("P6", "7 how often it changed LANE.", "read 0 '*:=0c'", "car 1 29 4", "told 0 7 = 0", "ticks 1", "told 0 7 = 1", "told 0 1 = 0",
            "ticks 199", "told 0 7 = 200", "told 0 1 = 1", "told 0 6 = 0");
    }

    private static void board() {
        says("P10", "A BOARD: its number. BAD: also beyond THE RING;", "board -1 0 0 = BAD", "board 30 0 0 = BAD", "board 0 -1 0 = BAD",
            "board 0 30 0 = BAD", "board LOW 0 0 = BAD", "board 0 HIGH 0 = BAD", "board 29 0 0 = 0", "board 0 29 0 = 1", "board 29 29 0 = 2");
        says("P10", "BAD: also beyond THE RING;", "ring 0 12", "board 12 0 0 = BAD", "board 0 12 0 = BAD", "board 11 11 0 = 0");
        says("P10", "BAD: also beyond THE RING;", "ring 0 99", "board 99 0 0 = BAD", "board 0 99 0 = BAD", "board 98 98 0 = 0");
        says("P10", "FULL: 4.", "3x board 0 0 5", "count 4 = 3", "board 0 0 5 = 3", "board 0 0 5 = FULL", "board 30 0 5 = BAD",
            "board 0 0 10 = BAD", "count 4 = 4");
    }

    private static void loop() {
        says("P11", "A LOOP: its number. BAD;", "loop -1 = BAD", "loop 30 = BAD", "loop LOW = BAD", "loop HIGH = BAD", "loop 0 = 0",
            "loop 29 = 1");
        says("P11", "BAD;", "ring 0 12", "loop 12 = BAD", "loop 11 = 0");
        says("P11", "BAD;", "ring 0 99", "loop 99 = BAD", "loop 98 = 0");
        says("P11", "FULL: 4.", "3x loop 5", "count 5 = 3", "loop 5 = 3", "loop 5 = FULL", "loop 30 = BAD", "count 5 = 4");
    }

    private static void looped() {
        says("P12", "BAD.", "looped 0 0 = BAD", "loop 3", "looped 0 0 = 0", "looped 0 1 = 0", "looped 1 0 = BAD", "looped -1 0 = BAD",
            "looped 0 2 = BAD", "looped 0 -1 = BAD", "looped LOW 0 = BAD", "looped HIGH 1 = BAD", "looped 0 LOW = BAD", "looped 0 HIGH = BAD");
        says("P12", "BAD.", "4x loop 3", "looped 3 0 = 0", "looped 4 0 = BAD", "looped 4 1 = BAD");
        says("P12", "CARS that a LOOP counted (0), their PACES together (1).", "loop 15", "evenly 3 5", "ticks 200", "looped 0 0 = 100",
            "looped 0 1 = 500");
    }
}
