/** The order of the answers below 0, and that what is refused changes nothing: section 0. */
final class EdgesOfAnswers {
    private static final String NAMED = "Answers below 0, of several the first that a call names: ";
    private static final String[] FULLS = {
        "evenly 11 1", "car 1 5 2", "4x board 3 9 2", "4x loop 7", "12x type 0x2a2a2a2a2a2a2a2a 8", "type 0x2a2a2a2a 4", "tap 3", "image 0"};

    private EdgesOfAnswers() {
    }

    static void all() {
        numbers();
        firstNamed();
        machineOrder();
        badChangesNothing();
        restChangesNothing();
        faults();
        butAsTold();
    }

    private static void says(String words, String... rows) {
        Rows.says("0", words, rows);
    }

    private static void numbers() {
        says("BAD -1 (a number is not as told, there is no such thing), ", "ring 2 0 = -1", "told 0 0 = -1", "ticks 0 = -1");
        says("NOT -2 (as told), ", "car 0 0 0", "car 0 0 0 = -2", "ring 0 20 = -2");
        says("FULL -3, ", "evenly 12 0", "car 1 0 0 = -3");
        says("NONE -4 (as told); ", "first = -4", "restore 0 = -4", "knot 0 0 = -4");
        Due.is("BAD", KnotRing.BAD, -1);
        Due.is("NOT", KnotRing.NOT, -2);
        Due.is("FULL", KnotRing.FULL, -3);
        Due.is("NONE", KnotRing.NONE, -4);
        Due.is("NULL", KnotRing.NULL, -11);
        Due.is("CAST", KnotRing.CAST, -12);
        Due.is("INDEX", KnotRing.INDEX, -13);
        Due.is("SIZE", KnotRing.SIZE, -14);
    }

    private static void firstNamed() {
        says(NAMED, "car 0 0 0", "ring 0 11 = BAD", "ring 0 12 = NOT");
        says(NAMED, Rows.join(FULLS, "car 2 5 2 = BAD", "car 1 30 2 = BAD", "car 1 5 10 = BAD", "car 1 5 2 = NOT", "car 1 6 2 = FULL"));
        says(NAMED, Rows.join(FULLS, "board 30 0 0 = BAD", "board 0 0 0 = FULL", "loop 30 = BAD", "loop 0 = FULL", "type 0x1f 1 = BAD",
            "type 0x20 0 = BAD", "type 0x20 1 = FULL", "habit 3 = BAD", "calmed 0 0 = BAD", "calmed 12 1 = BAD", "calmed 0 1 = NOT"));
        says(NAMED, "text 'x'", "habit 3 = BAD", "habit 0 = -20");
        says(NAMED, "knot 9 2 = BAD", "knot -1 0 = BAD", "knot 9 0 = NONE");
        says(NAMED, "evenly 9 0", "calmed 0 1 = NOT", "evenly 8 0", "calmed 0 1 = NONE");
        says(NAMED, "499x ticks 200", "ticks 201 = BAD", "ticks 200 = FULL");
        says(NAMED, "sheet 4 0 -1 = BAD", "sheet 0 3 -1 = BAD", "sheet 0 0 -1 = SIZE");
    }

    private static void machineOrder() {
        String words = "what the machine finds: NULL -11, CAST -12, INDEX -13, SIZE -14, in this order.";
        says(words, "drop 0 = -11", "sheet 0 0 -1 = -14", "sheet 0 0 1", "item 0 1 0 0 = -12", "item 0 0 1 0 = -13");
        says(words, "evenly 2 0", "paces 0 3 -1 = BAD", "paces 0 1 -1 = NULL", "sheet 0 2 1", "item 0 2 0 99", "paces 0 3 -1 = BAD", "paces 0 1 -1 = CAST",
            "paces 0 2 0 = INDEX", "sheet 0 2 2", "item 0 2 1 99", "paces 0 2 0 = NOT", "paces 0 2 1 = INDEX", "paces 0 1 0 = CAST");
        says(words, "evenly 2 0", "taps 4 -1 = BAD", "taps 0 -1 = NULL", "sheet 0 1 1", "taps 0 -1 = CAST", "sheet 0 0 1", "taps 0 0 = INDEX");
        says(words, "item 0 3 -1 0 = BAD", "item 0 0 -1 0 = NULL", "sheet 0 1 1", "item 0 0 -1 0 = CAST", "item 0 1 -1 0 = INDEX");
        says(words, "copy 4 -1 0 -1 -1 = BAD", "copy 0 -1 1 -1 -1 = NULL", "sheet 0 1 1", "copy 0 -1 1 -1 -1 = NULL", "sheet 1 2 1", "copy 0 -1 1 -1 -1 = CAST",
            "sheet 1 1 1", "copy 0 -1 1 -1 -1 = INDEX", "copy 0 0 1 0 1 = 1");
    }

    private static void badChangesNothing() {
        says("What answers so changes nothing, ", Rows.join(Rows.RICH, "ring 0 11 = BAD", "ring 0 100 = BAD", "ring 1 0 = BAD", "ring 1 10 = BAD", "ring 2 5 = BAD",
            "car 2 15 0 = BAD", "car 0 20 0 = BAD", "car 0 15 10 = BAD", "evenly 0 0 = BAD", "evenly 13 0 = BAD", "evenly 3 10 = BAD", "set 5 0 0 = BAD",
            "set 0 2 0 = BAD", "set 0 0 3 = BAD", "set 0 1 4 = BAD", "told 5 0 = BAD", "told 0 8 = BAD", "type 0x2a 0 = BAD", "type 0x2a 9 = BAD",
            "type 0x2a1f2a 3 = BAD", "type 0x2a7f2a 3 = BAD", "habit 3 = BAD", "habit -1 = BAD", "holds 5 = BAD", "board 20 0 0 = BAD", "board 0 20 0 = BAD",
            "board 0 0 10 = BAD", "loop 20 = BAD", "looped 2 0 = BAD", "looped 0 2 = BAD", "tap 5 = BAD", "tap -1 = BAD", "ticks 0 = BAD", "ticks 201 = BAD",
            "count 10 = BAD", "knot -1 0 = BAD", "knot 0 2 = BAD", "cost 5 1 0 = -100001", "cost 0 0 0 = -100001", "cost 0 1 5 = -100001", "after 5 1 = BAD",
            "after 0 0 = BAD", "calmed 5 1 = BAD", "calmed 0 201 = BAD", "round 0 = BAD", "round 501 = BAD", "evens -1 = BAD", "evens 501 = BAD", "image 2 = BAD",
            "image -1 = BAD", "restore 2 = BAD", "restore -1 = BAD", "paces 4 1 0 = BAD", "paces 1 0 0 = BAD", "paces 1 3 0 = BAD", "taps 4 0 = BAD",
            "sheet 4 0 1 = BAD", "sheet 1 3 1 = BAD", "sheet 1 1 37 = BAD", "drop 4 = BAD", "drop -1 = BAD", "item 4 0 0 1 = BAD", "item 1 3 0 1 = BAD",
            "copy 4 0 1 0 1 = BAD", "copy 1 0 4 0 1 = BAD"));
    }

    private static void restChangesNothing() {
        String words = "What answers so changes nothing, ";
        says(words, Rows.join(Rows.RICH, "ring 0 30 = NOT", "ring 0 20 = NOT"));
        says(words, Rows.join(Rows.RICH, "restore 0 = NONE", "knot 5 0 = NONE", "round 500 = NONE", "paces 3 1 0 = NULL", "taps 3 0 = NULL", "drop 3 = NULL",
            "item 3 0 0 1 = NULL", "copy 3 0 1 0 1 = NULL", "copy 1 0 3 0 1 = NULL", "paces 1 2 0 = CAST", "taps 1 0 = CAST", "item 1 2 0 1 = CAST",
            "copy 1 0 2 0 1 = CAST", "paces 1 1 2 = INDEX", "paces 1 1 -1 = INDEX", "taps 0 2 = INDEX", "taps 0 -1 = INDEX", "item 1 1 6 1 = INDEX",
            "item 1 1 -1 1 = INDEX", "copy 1 0 1 1 6 = INDEX", "copy 1 3 1 0 4 = INDEX", "copy 1 0 1 0 -1 = INDEX", "sheet 1 1 -1 = SIZE",
            "paces 2 2 1 = NOT"));
        says(words, Rows.join(FULLS, "car 1 5 0 = NOT", "car 1 6 0 = FULL", "board 0 0 0 = FULL", "loop 0 = FULL", "type 0x20 1 = FULL", "calmed 0 1 = NOT"));
        says(words, "evenly 2 1", "498x ticks 200", "ticks 200", "tap 1", "ticks 200 = FULL", "told 0 0 = 20", "tap 1 = 1");
    }

    private static void faults() {
        String words = "What answers so changes nothing, but as told.";
        Rows.alike("0", words, new String[] {"read 0 '*:=1'", "car 0 0 3"}, new String[] {"read 0 '*:=1'", "car 0 0 3", "text '*:=2;'", "habit 0 = -25"});
        Rows.alike("0", words, new String[] {"car 0 0 3"}, new String[] {"car 0 0 3", "text 'x'", "habit 1 = -20"});
    }

    private static void butAsTold() {
        says("What answers so changes nothing, but as told.", "text '*:=1;'", "habit 0 = -25", "habit 0 = -20", "text '*:=1;'", "habit 3 = BAD", "text '*:=2'",
            "habit 0 = 2");
    }
}
