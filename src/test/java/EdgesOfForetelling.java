/** The boundary cases of section 3, and of promises 18 to 24. */
final class EdgesOfForetelling {
    private EdgesOfForetelling() {
    }

    static void all() {
        thisOneStays();
        beyondNow();
        fewerCells();
        whoseTap();
        calm();
        calmedBySets();
        calmedByAll();
        roundByCells();
        roundByNotes();
        roundByTaps();
        cost();
        after();
        calmed();
        round();
        evens();
        kept();
        keptOfCars();
        notKept();
        restored();
        images();
    }

    private static void says(String section, String words, String... rows) {
        Rows.says(section, words, rows);
    }

    private static void thisOneStays() {
        String words = "What is foretold goes on a ring like this one; this one stays.";
        says("3", words, Rows.join(Rows.RICH, "cost 0 20 -1", "after 1 20", "calmed 0 20", "round 500 = NONE", "evens 500"));
        says("3", words, "read 0 '*:=5'", "evenly 3 5", "loop 3", "tap 1", "cost 0 200 -1 = 5", "after 0 200 = 0", "calmed 0 200 = 0",
            "round 500 = NONE", "evens 500 = 0", "count 8 = 0", "looped 0 0 = 0", "told 0 6 = 0", "told 0 0 = 0", "tap 0 = 0", "tap 1 = 1",
            "first = NONE");
        words = "What is foretold goes on a ring like this one; ";
        says("3", words, "board 10 12 1", "car 0 11 5", "car 0 20 5", "car 1 5 5", "car 1 15 5", "cost 0 1 0 = 1", "cost 1 1 1 = 5", "cost 2 1 2 = 5",
            "cost 3 1 3 = 5", "evens 0 = 0", "ticks 1", "told 0 2 = 1");
        says("3", words, "ring 1 3", "read 0 '*:=9'", "car 0 0 0", "cost 0 5 0 = 3", "evens 1 = 1", "round 30 = NONE", "ticks 1", "round 10 = 10");
    }

    /** NOW has an end for ticks; what is foretold is not refused there. */
    private static void beyondNow() {
        says("3", "What is foretold goes on a ring like this one; ", "evenly 1 5", "499x ticks 200", "ticks 199 = 99999", "cost 0 200 0 = 1000",
            "after 0 200 = 0", "calmed 0 200 = 0", "round 500 = 6", "evens 500 = 0", "ticks 1 = FULL");
    }

    private static void fewerCells() {
        String words = "COST of a TAP on a CAR in n TICKS: by how many cells fewer a CAR goes, all go, ";
        says("3", words, "car 0 29 5", "cost 0 1 0 = 5", "cost 0 2 0 = 10", "cost 0 200 0 = 1000", "cost 0 1 -1 = 5");
        says("3", words, "read 0 '*:=5'", "car 0 29 5", "cost 0 1 0 = 5", "cost 0 200 0 = 5", "cost 0 200 -1 = 5");
        says("3", words, "car 0 29 0", "car 1 29 5", "cost 0 200 0 = 0", "cost 0 200 1 = 0", "cost 0 200 -1 = 0");
        says("3", words, "car 0 1 5", "car 0 28 5", "car 1 1 5", "cost 0 1 1 = 0", "cost 0 2 1 = 2", "cost 0 2 0 = 10", "cost 0 2 2 = 0",
            "cost 0 2 -1 = 12");
        says("3", words, "ring 0 99", "read 0 'd<0:=5;*:=1'", "read 1 '*:=2'", "car 0 50 2", "car 0 0 1", "set 0 0 1", "cost 0 3 0 = 2",
            "cost 0 3 1 = -8", "cost 0 3 -1 = -6");
        says("3", words, "ring 1 9", "ring 0 99", "evenly 12 9", "cost 0 1 -1 = 7", "cost 11 1 11 = 8", "cost 0 1 1 = 0");
    }

    private static void whoseTap() {
        String words = "than if that CAR were not TAPPED.";
        says("3", words, "read 0 '*:=5'", "evenly 2 5", "cost 0 9 -1 = 5", "tap 0", "cost 0 9 -1 = 5", "cost 0 9 0 = 5", "tap 0 = 1");
        says("3", words, "evenly 2 2", "tap 1", "cost 0 3 0 = 6", "cost 0 3 1 = 0", "cost 1 3 1 = 6", "tap 0 = 0");
        says("3", words, "car 0 0 1", "car 0 3 1", "tap 1", "cost 1 9 0 = 7", "cost 0 9 0 = 2", "cost 0 9 1 = 0");
    }

    /** Car 0, TAPPED, stands from then on; car 1 comes up to it: it goes by 2 for the 7th time, then it stands too. */
    private static void calm() {
        String words = "CALM is it after a TAP, if n TICKS on no KNOT is there.";
        says("3", words, "evenly 2 2", "calmed 0 7 = 0", "calmed 0 8 = NONE", "calmed 0 1 = 0", "calmed 0 200 = NONE", "after 0 7 = 0",
            "after 0 8 = 1");
        says("3", words, "evenly 2 0", "count 6 = 1", "calmed 0 1 = NONE", "read 0 '*:=2'", "calmed 0 1 = 0", "after 0 1 = 0");
        says("3", words, "car 0 0 0", "calmed 0 200 = 0", "car 1 0 0", "calmed 0 200 = 0", "car 0 9 0", "calmed 0 1 = NONE");
    }

    private static void calmedBySets() {
        String words = "of sets of CARS (up to 8 there are) that have HABIT 2 in place of their own, those with which it is CALM after a TAP: ";
        says("3", words, "read 2 '*:=5'", "evenly 2 2", "calmed 0 20 = 1", "calmed 1 20 = 2", "set 0 0 2", "calmed 0 20 = 0", "calmed 1 20 = 2",
            "set 0 0 0 = 2", "tap 0", "calmed 1 20 = 3");
        says("3", words, "read 2 '*:=2'", "evenly 8 0", "calmed 1 1 = 85", "calmed 0 1 = 170", "calmed 7 1 = 85", "count 0 = 8");
        says("3", "CALMED: of sets of CARS (up to 8 there are) ", "read 2 '*:=2'", "evenly 8 2", "calmed 0 1 = 0", "car 1 0 2", "calmed 0 1 = NOT",
            "calmed 8 1 = NOT", "evenly 9 2", "calmed 0 1 = NOT", "evenly 12 2", "calmed 11 1 = NOT", "evenly 8 2", "calmed 7 1 = 0");
        words = "the fewest CARS, of like ones the least bits.";
        says("3", words, "read 2 '*:=2'", "car 0 3 0", "car 0 17 0", "car 0 10 0", "car 0 25 5", "car 1 0 5", "calmed 4 1 = 4", "calmed 3 1 = 3");
        says("3", words, "read 2 '*:=2'", "evenly 7 0", "calmed 0 1 = 86");
        says("3", words, "read 2 '*:=2'", "car 0 3 0", "car 0 10 1", "car 0 20 1", "car 1 0 5", "calmed 3 1 = 3");
        says("3", words, "read 2 '*:=2'", "car 0 3 0", "car 0 10 1", "car 0 20 5", "car 1 0 5", "calmed 3 1 = 1", "calmed 0 1 = 2",
            "calmed 1 1 = 1", "calmed 2 1 = 3");
    }

    /** Whoever has not HABIT 2 stands, and the one behind comes up to it. */
    private static void calmedByAll() {
        says("3", "those with which it is CALM after a TAP: ", "read 2 '*:=2'", "evenly 8 0", "calmed 0 60 = 255", "calmed 7 60 = 255");
    }

    private static void roundByCells() {
        String words = "ROUND: after how many TICKS (1 or more, up to told ones) all is the first time as it is now: cells, LANES, PACES, ";
        says("3", words, "round 1 = 1", "round 500 = 1", "car 0 0 0", "round 1 = 1", "round 500 = 1");
        says("3", words, "car 0 29 5", "round 5 = NONE", "round 6 = 6", "round 7 = 6", "round 500 = 6");
        says("3", words, "car 0 0 1", "round 29 = NONE", "round 30 = 30");
        says("3", words, "ring 0 99", "car 0 0 2", "round 98 = NONE", "round 99 = 99");
        says("3", words, "ring 0 99", "ring 1 9", "car 0 0 9", "round 11 = 11", "round 10 = NONE");
        says("3", words, "evenly 3 5", "round 5 = NONE", "round 500 = 6");
        says("3", words, "car 0 0 5", "car 1 0 4", "round 500 = 30", "round 29 = NONE");
        says("3", words, "ring 0 15", "read 0 '*:=5c'", "car 0 0 5", "round 5 = NONE", "round 500 = 6");
        says("3", words, "ring 0 12", "read 0 '*:=4'", "car 0 0 5", "round 500 = NONE", "ticks 1", "round 500 = 3");
        says("3", words, "car 0 0 9", "round 500 = NONE");
        says("3", words, "loop 0", "car 0 0 5", "ticks 1", "round 500 = 6");
    }

    private static void roundByNotes() {
        String words = "and of each CAR the LATE latest of what it noted ";
        String[] uneven = {"evenly 2 0", "sheet 0 1 4", "item 0 1 1 5", "item 0 1 2 5", "item 0 1 3 5", "paces 0 1 0", "ticks 1", "paces 0 1 2"};
        says("3", words, Rows.join(uneven, "round 500 = 6", "set 0 1 1", "round 500 = NONE", "set 0 1 0", "set 1 1 1", "round 500 = NONE"));
        says("3", words, Rows.join(uneven, "set 0 1 1", "ticks 1", "round 500 = 6", "set 0 1 2", "round 500 = NONE", "ticks 1", "round 500 = 6",
            "set 0 1 3", "round 500 = NONE", "ticks 1", "round 500 = 6"));
        says("3", words, "car 0 0 0", "car 1 0 5", "set 0 1 3", "ticks 3", "round 500 = 6");
        String[] unlike = {"set 0 1 1", "round 500 = NONE", "set 0 1 0", "round 500 = 1"};
        says("3", words, Rows.join(new String[] {"car 0 0 5", "car 0 5 5", "tap 0", "ticks 1", "sheet 0 1 2", "paces 0 1 0"}, unlike));
        says("3", words, Rows.join(new String[] {"car 0 0 0", "car 0 5 5", "tap 1", "ticks 1"}, unlike));
        says("3", words, Rows.join(new String[] {"car 0 0 0", "car 1 5 5", "ticks 1", "sheet 0 1 2", "paces 0 1 0"}, unlike));
        words = "(as many as there are of these); ";
        says("3", words, "car 0 0 5", "set 0 1 1", "round 500 = NONE", "ticks 1", "round 500 = 6", "set 0 1 2", "round 500 = NONE", "ticks 1",
            "round 500 = 6", "set 0 1 3", "round 500 = NONE", "ticks 1", "round 500 = 6", "set 0 1 0", "round 500 = 6");
        says("3", words, "car 0 0 0", "car 0 1 0", "car 1 0 0", "set 0 1 1", "round 500 = NONE", "ticks 1", "round 500 = 1");
        says("3", words, "car 0 0 5", "ticks 6", "set 0 1 3", "round 500 = 6");
    }

    private static void roundByTaps() {
        String words = "who is TAPPED does not count.";
        says("3", words, "evenly 2 0", "tap 0", "round 1 = 1", "tap 0 = 1");
        says("3", words, "read 0 '*:=5'", "evenly 1 5", "tap 0", "round 6 = NONE", "round 7 = 7");
    }

    private static void cost() {
        String words = "COST of a TAP on a CAR in n TICKS (1 .. 200) for a CAR (who 0 ..), for all (-1).";
        says("P18", words, "evenly 3 5", "cost 0 0 0 = -100001", "cost 0 201 0 = -100001", "cost 0 -1 0 = -100001", "cost 0 LOW 0 = -100001",
            "cost 0 HIGH 0 = -100001", "cost 0 1 0 = 5", "cost 0 200 0 = 1000", "cost 2 1 2 = 5", "cost 2 1 0 = 0", "cost 2 1 -1 = 5");
        words = "BAD less 100000 (-100001).";
        says("P18", words, "cost 0 1 -1 = -100001", "cost 0 1 0 = -100001", "evenly 3 5", "cost -1 1 0 = -100001", "cost 3 1 0 = -100001",
            "cost LOW 1 0 = -100001", "cost HIGH 1 0 = -100001", "cost 0 1 -2 = -100001", "cost 0 1 3 = -100001", "cost 0 1 LOW = -100001",
            "cost 0 1 HIGH = -100001", "cost -1 1 -1 = -100001");
    }

    private static void after() {
        says("P19", "How many KNOTS there are n TICKS (1 .. 200) after a TAP.", "evenly 2 2", "after 0 1 = 0", "after 0 7 = 0", "after 0 8 = 1",
            "after 0 200 = 1", "after 1 7 = 0", "after 1 200 = 1");
        says("P19", "How many KNOTS there are n TICKS (1 .. 200) after a TAP.", "car 0 1 0", "car 0 2 0", "car 1 1 1", "car 1 0 1", "car 0 20 5",
            "after 0 1 = 2", "after 2 1 = 2", "after 4 1 = 2");
        says("P19", "BAD.", "after 0 1 = BAD", "evenly 2 2", "after 0 0 = BAD", "after 0 201 = BAD", "after 0 -1 = BAD", "after 0 LOW = BAD",
            "after 0 HIGH = BAD", "after -1 1 = BAD", "after 2 1 = BAD", "after LOW 1 = BAD", "after HIGH 1 = BAD");
    }

    private static void calmed() {
        says("P20", "CALMED with n TICKS (1 .. 200), as bits. BAD;", "calmed 0 1 = BAD", "evenly 2 2", "calmed 0 0 = BAD", "calmed 0 201 = BAD",
            "calmed 0 -1 = BAD", "calmed 0 LOW = BAD", "calmed 0 HIGH = BAD", "calmed -1 1 = BAD", "calmed 2 1 = BAD", "calmed LOW 1 = BAD",
            "calmed HIGH 1 = BAD", "calmed 1 1 = 0", "read 2 '*:=5'", "calmed 1 200 = 2");
        says("P20", "NOT: there are more than 8 CARS;", "evenly 9 2", "calmed 0 1 = NOT", "calmed 8 200 = NOT", "calmed 9 1 = BAD", "calmed -1 1 = BAD",
            "calmed 0 0 = BAD", "calmed 0 201 = BAD", "evenly 8 2", "calmed 7 1 = 0", "calmed 8 1 = BAD");
        says("P20", "NONE: by none.", "evenly 8 0", "calmed 0 1 = NONE", "calmed 7 1 = NONE", "read 2 '*:=1'", "calmed 0 1 = NONE",
            "read 2 '*:=2'", "calmed 0 1 = 170");
    }

    /** Two cars that are as they were after 250 and after 100 ticks. */
    private static void round() {
        says("P21", "ROUND, up to n TICKS (1 .. 500).", "ring 0 50", "read 0 'v=5:=0;v=3:=5;*:+1'", "read 1 'v=3:=0;*:+1'", "car 0 0 0",
            "round 249 = NONE", "round 250 = 250", "car 1 7 0", "set 1 0 1", "round 499 = NONE", "round 500 = 500", "round 501 = BAD");
        says("P21", "BAD;", "round 0 = BAD", "round -1 = BAD", "round 501 = BAD", "round LOW = BAD", "round HIGH = BAD", "round 1 = 1");
        says("P21", "NONE: not so soon.", "car 0 29 1", "round 1 = NONE", "round 29 = NONE", "round 30 = 30");
    }

    /** The last one: car 0 goes by 1 and 0 in turn, and car 1 goes on when car 0 is just behind it, in tick 192. */
    private static void evens() {
        String words = "After how many TICKS (0 .. n; n 0 .. 500) all are EVEN.";
        says("P22", words, "evens 0 = 0", "evens 500 = 0", "car 0 0 1", "evens 0 = 0", "car 0 9 0", "evens 0 = NONE");
        says("P22", words, "read 0 'v<3:+1'", "car 0 0 2", "car 1 0 0", "evens 0 = NONE", "evens 2 = NONE", "evens 3 = 3", "evens 4 = 3",
            "evens 500 = 3", "tap 0", "evens 3 = NONE", "evens 4 = 4");
        says("P22", words, "ring 0 99", "read 0 'v=0:=1;*:=0'", "read 1 'o=98:=1'", "car 0 2 0", "car 1 0 0", "set 1 0 1", "evens 192 = NONE",
            "evens 193 = 193", "evens 500 = 193");
        says("P22", "BAD;", "evens -1 = BAD", "evens 501 = BAD", "evens LOW = BAD", "evens HIGH = BAD", "evens 0 = 0");
        says("P22", "NONE.", "car 0 0 0", "evens 0 = NONE", "evens 1 = NONE", "evens 500 = NONE");
    }

    private static void kept() {
        String words = "All but SHEETS, THE TAPE, IMAGES is kept in an IMAGE (0, 1): 1.";
        says("P23", words, "image 0 = 1", "ring 0 12", "ring 1 9", "restore 0 = 1", "ring 0 99 = 30", "ring 1 1 = 5", "restore 0", "ring 0 99 = 30");
        says("P23", words, "ring 0 99", "car 0 98 0", "image 1 = 1", "image 0 = 1", "evenly 12 0", "restore 1", "count 0 = 1", "told 0 0 = 98",
            "told 0 3 = 98");
        says("P23", words, "read 0 '*:=1'", "read 1 '*:=1;*:=1'", "image 0", "read 0 '*:=2;*:=3'", "read 2 '*:=2'", "read 1 '*:=0'", "restore 0",
            "count 1 = 1", "count 2 = 2", "count 3 = 0", "car 0 0 5", "ticks 1", "told 0 2 = 1");
        says("P23", words, "3x board 0 0 1", "image 0", "board 5 5 1 = 3", "restore 0", "count 4 = 3", "car 0 5 5", "car 1 0 5", "ticks 1",
            "told 0 2 = 5", "told 1 2 = 1", "board 5 5 1 = 3", "board 5 5 1 = FULL");
        says("P23", words, "loop 0", "car 0 29 5", "ticks 1", "image 0", "loop 0", "ticks 6", "looped 0 0 = 2", "looped 0 1 = 10", "restore 0",
            "count 5 = 1", "looped 0 0 = 1", "looped 0 1 = 5", "looped 1 0 = BAD", "loop 0 = 1", "looped 1 0 = 0",
            "looped 1 1 = 0");
        says("P23", words, "image 1", "board 10 12 1", "board 20 22 0", "loop 7", "image 0", "restore 1", "board 0 5 2", "board 6 9 4", "loop 3", "restore 0",
            "car 0 11 5", "car 0 21 5", "car 1 5 5", "car 1 15 5", "ticks 1", "told 0 2 = 1", "told 1 2 = 0", "told 2 2 = 5", "told 3 2 = 5",
            "looped 0 0 = 1", "looped 0 1 = 5", "count 4 = 2", "count 5 = 1");
        says("P23", words, "ticks 7", "image 0", "ticks 200", "restore 0", "count 8 = 7", "ticks 1 = 8");
        says("P23", words, "evenly 3 5", "tap 1", "ticks 1", "image 0", "read 0 '*:=5'", "ticks 2", "first = NONE", "restore 0", "first = 1",
            "evenly 1 1", "first = NONE", "restore 0", "first = 1", "count 1 = 0");
        says("P23", words, "evenly 3 5", "image 0", "tap 1", "ticks 1", "first = 1", "restore 0", "first = NONE");
    }

    private static void keptOfCars() {
        String words = "All but SHEETS, THE TAPE, IMAGES is kept in an IMAGE (0, 1): 1.";
        says("P23", words, "evenly 2 5", "set 1 0 2", "set 1 1 3", "tap 1", "image 0", "set 1 0 1", "set 1 1 1", "ticks 1", "tap 0", "restore 0",
            "set 1 0 0 = 2", "set 1 1 0 = 3", "tap 1 = 1", "tap 0 = 0");
        says("P23", words, "read 0 '*:=2c'", "evenly 1 5", "ticks 3", "image 0", "ticks 2", "restore 0", "told 0 0 = 6", "told 0 1 = 1",
            "told 0 2 = 2", "told 0 6 = 6", "told 0 7 = 3");
        says("P23", words, "evenly 12 5", "image 0", "evenly 1 0", "restore 0", "count 0 = 12", "told 11 2 = 5", "car 1 0 0 = FULL");
        says("P23", words, "image 0", "evenly 12 5", "restore 0", "count 0 = 0", "told 0 0 = BAD", "car 0 3 0 = 0");
        says("P23", words, "read 0 'o=10:=1;*:=0'", "read 1 '*:=0'", "car 0 0 1", "car 1 10 0", "set 1 0 1", "set 0 1 3", "ticks 2", "image 0",
            "ticks 7", "restore 0", "ticks 2", "told 0 0 = 4", "ticks 1", "told 0 0 = 4");
        says("P23", words, "car 0 0 5", "set 0 1 1", "image 0", "ticks 6", "round 9 = 6", "restore 0", "round 9 = NONE");
    }

    private static void notKept() {
        String words = "All but SHEETS, THE TAPE, IMAGES is kept in an IMAGE (0, 1): 1.";
        says("P23", words, "sheet 0 1 3", "image 0", "drop 0", "sheet 1 2 5", "restore 0", "drop 0 = NULL", "drop 1 = 5");
        says("P23", words, "evenly 1 0", "sheet 0 1 1", "item 0 1 0 3", "image 0", "item 0 1 0 4", "restore 0", "paces 0 1 0", "told 0 2 = 4");
        says("P23", words, "text '*:'", "image 0", "text '=1'", "restore 0", "type 0x20 1 = 5", "habit 0 = 1");
        says("P23", words, "text '*:=1'", "image 0", "habit 0 = 1", "restore 0", "count 1 = 0", "habit 0 = -20");
        says("P23", words, "image 0", "car 0 0 0", "image 1", "restore 0", "count 0 = 0", "restore 1 = 1", "count 0 = 1", "restore 0", "count 0 = 0");
    }

    private static void restored() {
        String words = "All is as it was when an IMAGE was kept: 1.";
        Rows.alike("P24", words, Rows.join(Rows.RICH, "image 0"), Rows.join(Rows.RICH, "image 0", "ticks 9", "tap 0", "set 0 0 2", "set 1 1 3",
            "ring 1 9", "board 0 9 1", "loop 4", "evenly 12 9", "ticks 3", "taps 0 0 = INDEX", "restore 0 = 1"));
        Rows.alike("P24", words, Rows.join(Rows.RICH, "image 0", "ticks 5"), Rows.join(Rows.RICH, "image 0", "ticks 7", "restore 0", "ticks 5"));
        says("P24", words, "image 0", "car 0 0 0", "restore 0 = 1", "car 0 0 0 = 0", "restore 0 = 1", "count 0 = 0", "restore 0 = 1", "count 0 = 0");
        says("P24", words, "image 0", "car 0 0 0", "image 0 = 1", "car 0 1 0", "restore 0 = 1", "count 0 = 1");
        says("P24", words, "evenly 2 5", "image 1", "restore 1 = 1", "ticks 3", "restore 1", "told 0 0 = 0", "ticks 1", "told 0 0 = 5");
    }

    private static void images() {
        says("P23", "BAD.", "image -1 = BAD", "image 2 = BAD", "image LOW = BAD", "image HIGH = BAD", "restore 0 = NONE", "restore 1 = NONE",
            "image 0 = 1", "image 1 = 1");
        says("P24", "BAD;", "restore -1 = BAD", "restore 2 = BAD", "restore LOW = BAD", "restore HIGH = BAD", "image 0", "image 1", "restore 2 = BAD",
            "restore -1 = BAD");
        says("P24", "NONE: none was.", "car 0 0 3", "restore 0 = NONE", "restore 1 = NONE", "image 1", "restore 0 = NONE", "restore 1 = 1",
            "image 0", "restore 0 = 1");
    }
}
