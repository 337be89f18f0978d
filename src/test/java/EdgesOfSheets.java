import java.util.ArrayList;
import java.util.List;

/** The boundary cases of promises 25 to 30. */
final class EdgesOfSheets {
    private EdgesOfSheets() {
    }

    static void all() {
        pacesTaken();
        pacesRefused();
        pacesIndex();
        pacesNot();
        tapsTaken();
        tapsRefused();
        tapsIndex();
        sheet();
        sheetAnew();
        drop();
        itemBits();
        itemRefused();
        copyTaken();
        copyOfSame();
        copyRefused();
        copyIndex();
    }

    private static void says(String section, String words, String... rows) {
        Rows.says(section, words, rows);
    }

    /** Rows that look at the items of a sheet of bytes or ints, each 0 to 9, from the first on. */
    private static String[] items(int sheet, int lane, int... values) {
        List<String> rows = new ArrayList<>(List.of("evenly " + values.length + " 9", "paces " + sheet + " " + lane + " 0 = " + values.length));
        for (int k = 0; k < values.length; k++) {
            rows.add("told " + k + " 2 = " + values[k]);
        }
        return rows.toArray(new String[0]);
    }

    /** Rows that look at the items of a sheet of booleans. */
    private static String[] flags(int sheet, int... values) {
        List<String> rows = new ArrayList<>();
        int all = 0;
        for (int k = 0; k < values.length; k++) {
            rows.add("tap " + k + " = " + values[k]);
            all += values[k];
        }
        rows.add(0, "evenly " + values.length + " 9");
        rows.add(1, "taps " + sheet + " 0 = " + all);
        return rows.toArray(new String[0]);
    }

    private static void pacesTaken() {
        String words = "PACES of all CARS from a SHEET, taken as a row of a LANE (1, 2), from item i on: how many.";
        for (int lane = 1; lane <= 2; lane++) {
            String s = " " + lane + " ";
            says("P25", words, "evenly 2 5", "sheet 3" + s + "4", "item 3" + s + "0 9", "item 3" + s + "1 1", "item 3" + s + "3 2", "paces 3" + s + "0 = 2",
                "told 0 2 = 9", "told 1 2 = 1", "paces 3" + s + "1 = 2", "told 0 2 = 1", "told 1 2 = 0", "paces 3" + s + "2 = 2", "told 0 2 = 0",
                "told 1 2 = 2", "paces 3" + s + "3 = INDEX", "count 9 = 0");
            says("P25", words, "evenly 12 5", "sheet 0" + s + "36", "item 0" + s + "24 9", "item 0" + s + "35 8", "paces 0" + s + "24 = 12", "told 0 2 = 9",
                "told 11 2 = 8", "paces 0" + s + "25 = INDEX", "paces 0" + s + "0 = 12", "told 11 2 = 0");
            says("P25", words, "sheet 0" + s + "0", "paces 0" + s + "0 = 0", "evenly 1 5", "paces 0" + s + "0 = INDEX");
        }
        says("P25", words, "ring 1 1", "evenly 1 0", "sheet 0 2 1", "item 0 2 0 9", "paces 0 2 0 = 1", "told 0 2 = 9", "ticks 1", "told 0 2 = 1");
    }

    private static void pacesRefused() {
        says("P25", "BAD;", "evenly 1 5", "sheet 0 0 4", "sheet 1 1 4", "sheet 2 2 4", "paces -1 1 0 = BAD", "paces 4 1 0 = BAD", "paces LOW 1 0 = BAD",
            "paces HIGH 1 0 = BAD", "paces 0 0 0 = BAD", "paces 1 0 0 = BAD", "paces 1 3 0 = BAD", "paces 2 3 0 = BAD", "paces 1 -1 0 = BAD",
            "paces 1 LOW 0 = BAD", "paces 1 HIGH 0 = BAD", "paces 1 1 0 = 1", "paces 2 2 0 = 1");
        says("P25", "NULL;", "evenly 1 5", "paces 0 1 0 = NULL", "paces 3 2 0 = NULL", "sheet 0 1 1", "paces 0 1 0 = 1", "drop 0", "paces 0 1 0 = NULL",
            "paces 0 1 -1 = NULL", "paces 0 3 0 = BAD", "paces 0 0 0 = BAD", "paces 4 1 0 = BAD");
        says("P25", "NULL;", "paces 0 1 0 = NULL", "paces 0 2 9 = NULL");
        says("P25", "CAST;", "evenly 1 5", "sheet 0 0 4", "sheet 1 1 4", "sheet 2 2 4", "paces 0 1 0 = CAST", "paces 0 2 0 = CAST", "paces 1 2 0 = CAST",
            "paces 2 1 0 = CAST", "paces 1 2 4 = CAST", "paces 1 2 -1 = CAST", "paces 1 3 0 = BAD", "item 2 2 0 10", "paces 2 1 0 = CAST");
        says("P25", "CAST;", "sheet 1 1 4", "paces 1 2 0 = CAST", "sheet 1 2 0", "paces 1 1 0 = CAST");
    }

    private static void pacesIndex() {
        says("P25", "INDEX;", "evenly 3 5", "sheet 0 1 5", "paces 0 1 2 = 3", "paces 0 1 3 = INDEX", "paces 0 1 4 = INDEX", "paces 0 1 5 = INDEX",
            "paces 0 1 -1 = INDEX", "paces 0 1 -3 = INDEX", "paces 0 1 HIGH = INDEX", "paces 0 1 LOW = INDEX", "paces 0 1 2147483645 = INDEX",
            "item 0 1 3 10", "paces 0 1 3 = INDEX", "paces 0 1 2 = NOT", "paces 0 1 0 = 3");
        says("P25", "INDEX;", "sheet 0 1 5", "paces 0 1 0 = 0", "paces 0 1 5 = 0", "paces 0 1 6 = INDEX", "paces 0 1 -1 = INDEX");
    }

    private static void pacesNot() {
        String words = "NOT: one is not 0 .. 9.";
        for (int k = 0; k < 3; k++) {
            String[] three = {"evenly 3 5", "sheet 0 1 3", "sheet 1 2 3", "sheet 2 1 5", "item 2 1 0 10", "item 2 1 4 10", "paces 2 1 1 = 3", "told 0 2 = 0"};
            String bytes = "item 0 1 " + k + " ";
            says("P25", words, Rows.join(three, bytes + "10", "paces 0 1 0 = NOT", bytes + "-1", "paces 0 1 0 = NOT", bytes + "255", "paces 0 1 0 = NOT",
                bytes + "127", "paces 0 1 0 = NOT", bytes + "128", "paces 0 1 0 = NOT", bytes + "HIGH", "paces 0 1 0 = NOT", bytes + "9",
                "paces 0 1 0 = 3", "told " + k + " 2 = 9", bytes + "LOW", "paces 0 1 0 = 3", "told " + k + " 2 = 0"));
            String ints = "item 1 2 " + k + " ";
            says("P25", words, Rows.join(three, ints + "10", "paces 1 2 0 = NOT", ints + "-1", "paces 1 2 0 = NOT", ints + "256", "paces 1 2 0 = NOT",
                ints + "65536", "paces 1 2 0 = NOT", ints + "LOW", "paces 1 2 0 = NOT", ints + "HIGH", "paces 1 2 0 = NOT", ints + "9",
                "paces 1 2 0 = 3", "told " + k + " 2 = 9", ints + "0", "paces 1 2 0 = 3", "told " + k + " 2 = 0"));
        }
    }

    private static void tapsTaken() {
        String words = "Which CARS are TAPPED, from a SHEET, taken as a row of booleans, from item i on, one a CAR ";
        says("P26", words, "evenly 2 5", "sheet 3 0 4", "item 3 0 1 1", "item 3 0 2 1", "taps 3 0 = 1", "taps 3 1 = 2", "taps 3 2 = 1", "tap 0 = 1",
            "tap 1 = 0", "taps 3 0 = 1", "tap 0 = 0", "tap 1 = 1");
        says("P26", words, "evenly 12 5", "sheet 0 0 36", "item 0 0 35 1", "item 0 0 24 1", "taps 0 24 = 2", "tap 0 = 1", "tap 11 = 1", "taps 0 25 = INDEX",
            "taps 0 0 = 0", "tap 11 = 0");
        says("P26", words, "read 0 '*:=5'", "evenly 2 5", "sheet 0 0 2", "item 0 0 1 1", "taps 0 0 = 1", "ticks 1", "told 0 2 = 5", "told 1 2 = 0",
            "ticks 1", "told 1 2 = 5", "tap 1 = 0");
        words = "(others are not any more): how many are TAPPED then.";
        says("P26", words, "evenly 3 5", "tap 0", "tap 1", "tap 2", "sheet 0 0 5", "item 0 0 2 1", "taps 0 0 = 1", "taps 0 2 = 1", "tap 0 = 1", "tap 1 = 0",
            "tap 2 = 0", "drop 0", "sheet 0 0 3", "taps 0 0 = 0", "tap 0 = 0", "tap 1 = 0", "tap 2 = 0");
        says("P26", words, "sheet 0 0 0", "taps 0 0 = 0", "evenly 1 5", "taps 0 0 = INDEX");
        String[] all = {"evenly 12 5", "sheet 0 0 12"};
        for (int k = 0; k < 12; k++) {
            all = Rows.join(all, "item 0 0 " + k + " " + (k + 1), "taps 0 0 = " + (k + 1));
        }
        says("P26", words, all);
    }

    private static void tapsRefused() {
        says("P26", "BAD;", "evenly 1 5", "tap 0", "sheet 0 0 4", "sheet 3 0 4", "taps -1 0 = BAD", "taps 4 0 = BAD", "taps LOW 0 = BAD", "taps HIGH 0 = BAD",
            "taps 4 -1 = BAD", "tap 0 = 1", "taps 3 0 = 0", "taps 0 0 = 0");
        says("P26", "NULL;", "evenly 1 5", "tap 0", "taps 0 0 = NULL", "taps 3 0 = NULL", "taps 0 -1 = NULL", "taps 0 9 = NULL", "sheet 0 0 1", "drop 0",
            "taps 0 0 = NULL", "tap 0 = 1");
        says("P26", "NULL;", "taps 0 0 = NULL");
        says("P26", "CAST;", "evenly 1 5", "tap 0", "sheet 1 1 4", "sheet 2 2 4", "taps 1 0 = CAST", "taps 2 0 = CAST", "taps 1 4 = CAST", "taps 2 -1 = CAST",
            "tap 0 = 1");
        says("P26", "CAST;", "sheet 1 1 4", "taps 1 0 = CAST", "sheet 1 2 0", "taps 1 0 = CAST");
    }

    private static void tapsIndex() {
        says("P26", "INDEX.", "evenly 3 5", "tap 1", "sheet 0 0 5", "item 0 0 4 1", "taps 0 3 = INDEX", "taps 0 5 = INDEX", "taps 0 6 = INDEX",
            "taps 0 -1 = INDEX", "taps 0 HIGH = INDEX", "taps 0 LOW = INDEX", "taps 0 2147483645 = INDEX", "tap 1 = 1", "tap 0 = 0", "taps 0 2 = 1");
        says("P26", "INDEX.", "sheet 0 0 5", "taps 0 0 = 0", "taps 0 5 = 0", "taps 0 6 = INDEX", "taps 0 -1 = INDEX");
    }

    private static void sheet() {
        says("P27", "BAD: also n above 36;", "sheet -1 0 1 = BAD", "sheet 4 0 1 = BAD", "sheet LOW 0 1 = BAD", "sheet HIGH 0 1 = BAD", "sheet 0 -1 1 = BAD",
            "sheet 0 3 1 = BAD", "sheet 0 LOW 1 = BAD", "sheet 0 HIGH 1 = BAD", "sheet 0 0 37 = BAD", "sheet 0 1 37 = BAD", "sheet 0 2 37 = BAD",
            "sheet 0 0 HIGH = BAD", "drop 0 = NULL", "sheet 0 0 36 = 36", "sheet 0 2 37 = BAD", "drop 0 = 36");
        says("P27", "SIZE: n below 0.", "sheet 0 0 -1 = SIZE", "sheet 3 2 -1 = SIZE", "sheet 0 1 LOW = SIZE", "sheet 4 0 -1 = BAD", "sheet -1 0 -1 = BAD",
            "sheet 0 3 -1 = BAD", "sheet 0 -1 -1 = BAD", "drop 0 = NULL", "sheet 0 1 0 = 0", "sheet 0 2 -1 = SIZE", "drop 0 = 0");
        says("P27", "SIZE: n below 0.", "sheet 0 1 3", "item 0 1 0 7", "sheet 0 1 -1 = SIZE", "sheet 0 1 37 = BAD", "sheet 0 2 -1 = SIZE", "evenly 1 0",
            "paces 0 1 0 = 1", "told 0 2 = 7", "drop 0 = 3");
    }

    private static void sheetAnew() {
        String words = "A SHEET holds a new row of a LANE: n.";
        for (int s = 0; s < 4; s++) {
            for (int lane = 0; lane < 3; lane++) {
                String at = s + " " + lane + " ";
                says("P27", words, "sheet " + at + "0 = 0", "item " + at + "0 1 = INDEX", "sheet " + at + "1 = 1", "item " + at + "0 1 = 1",
                    "item " + at + "1 1 = INDEX", "sheet " + at + "36 = 36", "item " + at + "35 1 = 1", "item " + at + "36 1 = INDEX", "drop " + s + " = 36");
            }
        }
        says("P27", words, Rows.join(new String[] {"sheet 0 1 3", "item 0 1 0 7", "item 0 1 2 7", "sheet 0 1 3 = 3"}, items(0, 1, 0, 0, 0)));
        says("P27", words, Rows.join(new String[] {"sheet 0 1 3", "item 0 1 0 7", "item 0 1 2 7", "sheet 0 2 2", "sheet 0 2 3 = 3"}, items(0, 2, 0, 0, 0)));
        says("P27", words, Rows.join(new String[] {"sheet 0 2 3", "item 0 2 0 7", "drop 0", "sheet 0 0 2 = 2"}, flags(0, 0, 0)));
        says("P27", words, Rows.join(new String[] {"sheet 0 1 2", "sheet 1 1 2", "item 0 1 1 7", "sheet 1 1 2"}, items(0, 1, 0, 7)));
        says("P27", words, "sheet 0 0 2", "item 0 1 0 1 = CAST", "sheet 0 1 2", "item 0 0 0 1 = CAST", "item 0 1 0 1 = 1");
    }

    private static void drop() {
        says("P28", "A SHEET holds nothing: how many items it had.", "sheet 0 0 36", "sheet 3 2 0", "sheet 1 1 1", "drop 0 = 36", "drop 3 = 0",
            "drop 0 = NULL", "drop 3 = NULL", "item 0 0 0 1 = NULL", "drop 1 = 1", "sheet 0 1 2 = 2", "drop 0 = 2");
        says("P28", "BAD;", "sheet 0 0 3", "sheet 3 0 3", "drop -1 = BAD", "drop 4 = BAD", "drop LOW = BAD", "drop HIGH = BAD", "drop 3 = 3", "drop 0 = 3");
        says("P28", "NULL.", "drop 0 = NULL", "drop 1 = NULL", "drop 2 = NULL", "drop 3 = NULL", "sheet 2 0 0", "drop 2 = 0", "drop 2 = NULL");
    }

    private static void itemBits() {
        String words = "Item i of a SHEET, taken as a row of a LANE, becomes v, its lowest bits (booleans: whether v is not 0): 1.";
        says("P29", words, Rows.join(new String[] {"sheet 0 1 6", "item 0 1 0 256 = 1", "item 0 1 1 265 = 1", "item 0 1 2 -247 = 1", "item 0 1 3 LOW = 1",
            "item 0 1 4 0x12345607 = 1", "item 0 1 5 -256 = 1"}, items(0, 1, 0, 9, 9, 0, 7, 0)));
        says("P29", words, Rows.join(new String[] {"sheet 0 2 3", "item 0 2 0 9 = 1", "item 0 2 1 265 = 1", "item 0 2 2 -1 = 1", "evenly 1 5",
            "paces 0 2 1 = NOT", "paces 0 2 2 = NOT", "item 0 2 1 3", "item 0 2 2 0"}, items(0, 2, 9, 3, 0)));
        says("P29", words, Rows.join(new String[] {"sheet 0 0 7", "item 0 0 0 1 = 1", "item 0 0 1 256 = 1", "item 0 0 2 LOW = 1", "item 0 0 3 -1 = 1",
            "item 0 0 4 2 = 1", "item 0 0 5 HIGH = 1", "item 0 0 6 1", "item 0 0 6 0 = 1"}, flags(0, 1, 1, 1, 1, 1, 1, 0)));
        says("P29", words, Rows.join(new String[] {"sheet 3 1 3", "item 3 1 1 4", "item 3 1 1 5 = 1"}, items(3, 1, 0, 5, 0)));
    }

    private static void itemRefused() {
        says("P29", "BAD;", "sheet 0 0 3", "sheet 3 2 3", "item -1 0 0 1 = BAD", "item 4 0 0 1 = BAD", "item LOW 0 0 1 = BAD", "item HIGH 0 0 1 = BAD",
            "item 0 -1 0 1 = BAD", "item 0 3 0 1 = BAD", "item 0 LOW 0 1 = BAD", "item 0 HIGH 0 1 = BAD", "item 1 3 0 1 = BAD", "item 3 3 9 1 = BAD");
        says("P29", "NULL;", "item 0 0 0 1 = NULL", "item 3 2 0 1 = NULL", "item 0 0 -1 1 = NULL", "item 0 3 0 1 = BAD", "sheet 0 0 1", "drop 0",
            "item 0 0 0 1 = NULL", "item 0 1 0 1 = NULL");
        for (int lane = 0; lane < 3; lane++) {
            int one = (lane + 1) % 3;
            int two = (lane + 2) % 3;
            says("P29", "CAST;", "sheet 0 " + lane + " 2", "item 0 " + one + " 0 1 = CAST", "item 0 " + two + " 0 1 = CAST", "item 0 " + one + " 2 1 = CAST",
                "item 0 " + two + " -1 1 = CAST", "item 0 " + lane + " 0 1 = 1");
            says("P29", "INDEX.", "sheet 0 " + lane + " 2", "item 0 " + lane + " 0 1 = 1", "item 0 " + lane + " 1 1 = 1", "item 0 " + lane + " 2 1 = INDEX",
                "item 0 " + lane + " -1 1 = INDEX", "item 0 " + lane + " LOW 1 = INDEX", "item 0 " + lane + " HIGH 1 = INDEX", "sheet 0 " + lane + " 0",
                "item 0 " + lane + " 0 1 = INDEX");
            says("P29", "INDEX.", "sheet 1 " + lane + " 36", "item 1 " + lane + " 36 1 = INDEX", "item 1 " + lane + " 35 1 = 1");
        }
    }

    /** A sheet 0 of bytes 1 2 3 4 5. */
    private static String[] five(String... rows) {
        return Rows.join(new String[] {"sheet 0 1 5", "item 0 1 0 1", "item 0 1 1 2", "item 0 1 2 3", "item 0 1 3 4", "item 0 1 4 5"}, rows);
    }

    private static void copyTaken() {
        String words = "n items of a SHEET from i on come to another one (or the same) from j on, ";
        says("P30", words, Rows.join(five("sheet 3 1 4", "copy 0 2 3 1 3 = 3"), items(3, 1, 0, 3, 4, 5)));
        says("P30", words, Rows.join(five("sheet 3 1 4", "copy 0 0 3 0 4 = 4"), items(3, 1, 1, 2, 3, 4)));
        says("P30", words, Rows.join(five("sheet 3 1 4", "copy 0 4 3 3 1 = 1"), items(3, 1, 0, 0, 0, 5)));
        says("P30", words, Rows.join(five("sheet 3 1 4", "copy 0 2 3 1 3 = 3"), items(0, 1, 1, 2, 3, 4, 5)));
        says("P30", words, Rows.join(five("sheet 3 1 4", "copy 0 0 3 0 0 = 0", "copy 0 5 3 4 0 = 0", "copy 3 4 0 5 0 = 0"), items(3, 1, 0, 0, 0, 0)));
        says("P30", words, Rows.join(new String[] {"sheet 1 0 3", "item 1 0 1 1", "sheet 2 0 3", "copy 1 0 2 1 2 = 2"}, flags(2, 0, 0, 1)));
        says("P30", words, Rows.join(new String[] {"sheet 1 2 3", "item 1 2 1 8", "sheet 2 2 3", "copy 1 1 2 0 2 = 2"}, items(2, 2, 8, 0, 0)));
        says("P30", words, "sheet 0 2 36", "item 0 2 35 7", "sheet 1 2 36", "copy 0 0 1 0 36 = 36", "copy 0 0 1 0 37 = INDEX", "copy 0 1 1 0 36 = INDEX",
            "copy 0 0 1 1 36 = INDEX", "evenly 1 0", "paces 1 2 35 = 1", "told 0 2 = 7");
        says("P30", words, "sheet 0 2 0", "sheet 1 2 0", "copy 0 0 1 0 0 = 0", "copy 0 0 0 0 0 = 0", "copy 0 0 1 0 1 = INDEX");
    }

    private static void copyOfSame() {
        String words = "as if all were taken ahead: n.";
        says("P30", words, Rows.join(five("copy 0 0 0 1 4 = 4"), items(0, 1, 1, 1, 2, 3, 4)));
        says("P30", words, Rows.join(five("copy 0 1 0 0 4 = 4"), items(0, 1, 2, 3, 4, 5, 5)));
        says("P30", words, Rows.join(five("copy 0 0 0 2 3 = 3"), items(0, 1, 1, 2, 1, 2, 3)));
        says("P30", words, Rows.join(five("copy 0 2 0 0 3 = 3"), items(0, 1, 3, 4, 5, 4, 5)));
        says("P30", words, Rows.join(five("copy 0 0 0 0 5 = 5"), items(0, 1, 1, 2, 3, 4, 5)));
        says("P30", words, Rows.join(new String[] {"sheet 0 0 4", "item 0 0 0 1", "copy 0 0 0 1 3 = 3"}, flags(0, 1, 1, 0, 0)));
        says("P30", words, Rows.join(new String[] {"sheet 0 2 3", "item 0 2 0 6", "copy 0 0 0 1 2 = 2"}, items(0, 2, 6, 6, 0)));
    }

    private static void copyRefused() {
        says("P30", "BAD;", "sheet 0 1 3", "sheet 3 1 3", "copy -1 0 0 0 1 = BAD", "copy 4 0 0 0 1 = BAD", "copy 0 0 -1 0 1 = BAD", "copy 0 0 4 0 1 = BAD",
            "copy LOW 0 0 0 1 = BAD", "copy 0 0 HIGH 0 1 = BAD", "copy 4 0 4 0 1 = BAD", "copy 1 0 4 0 1 = BAD", "copy 4 -1 0 0 1 = BAD", "copy 3 0 0 0 1 = 1");
        says("P30", "NULL (either);", "copy 0 0 1 0 1 = NULL", "copy 0 0 0 0 0 = NULL", "sheet 0 1 3", "copy 0 0 1 0 1 = NULL", "copy 1 0 0 0 1 = NULL",
            "copy 1 -1 0 0 1 = NULL", "copy 0 9 1 0 1 = NULL", "copy 0 0 1 0 -1 = NULL", "sheet 1 1 3", "copy 0 0 1 0 1 = 1", "drop 0",
            "copy 0 0 1 0 1 = NULL", "copy 1 0 0 0 1 = NULL");
        for (int lane = 0; lane < 3; lane++) {
            for (int by = 1; by < 3; by++) {
                says("P30", "CAST: of unlike LANES;", "sheet 0 " + lane + " 3", "sheet 1 " + (lane + by) % 3 + " 3", "copy 0 0 1 0 1 = CAST",
                    "copy 1 0 0 0 1 = CAST", "copy 0 0 1 0 0 = CAST", "copy 0 -1 1 0 1 = CAST", "copy 0 0 1 3 1 = CAST", "copy 0 0 1 0 -1 = CAST",
                    "copy 0 0 0 1 2 = 2", "copy 4 0 1 0 1 = BAD", "copy 2 0 1 0 1 = NULL");
            }
        }
    }

    private static void copyIndex() {
        String[] wrong = {"-1 0 1", "0 -1 1", "0 0 -1", "0 0 5", "1 0 5", "5 0 1", "0 4 1", "2 2 3", "3 0 3", "6 0 0", "0 5 0", "-1 0 0", "0 -1 0", "5 4 -1",
            "HIGH 0 1", "0 HIGH 1", "0 0 HIGH", "0 0 LOW", "LOW 0 1", "0 LOW 1", "HIGH 0 HIGH", "HIGH HIGH HIGH", "LOW LOW LOW", "1 1 HIGH", "2147483643 0 5"};
        for (String w : wrong) {
            String[] a = w.split(" ");
            says("P30", "INDEX.", five("sheet 1 1 4", "copy 0 " + a[0] + " 1 " + a[1] + " " + a[2] + " = INDEX"));
        }
        String[] wrongOfSame = {"0 1 5", "1 0 5", "0 0 6", "0 5 1", "5 0 1", "0 0 -1", "6 0 0", "0 6 0"};
        for (String w : wrongOfSame) {
            String[] a = w.split(" ");
            says("P30", "INDEX.", five("copy 0 " + a[0] + " 0 " + a[1] + " " + a[2] + " = INDEX"));
        }
        says("P30", "INDEX.", five("copy 0 0 0 4 1 = 1", "copy 0 4 0 0 1 = 1", "copy 0 5 0 5 0 = 0"));
    }
}
