/** The boundary cases of HABITS in section 1, and of promises 7 to 9. */
final class EdgesOfHabits {
    private static final String SIX = "*:+1;*:+2;*:+3;*:+4;*:+5;*:+6";
    private static final String ACT = "a TEST, :, an ACT: + - or = and a digit (so much more, less PACE, just so much), perhaps c behind it.";

    private EdgesOfHabits() {
    }

    static void all() {
        clauses();
        acts();
        actsAtWork();
        cases();
        claims();
        numbers();
        brackets();
        places();
        blanks();
        everyByteAtEveryPlace();
        truth();
        noClauses();
        type();
        full();
        habit();
        holds();
    }

    private static void says(String section, String words, String... rows) {
        Rows.says(section, words, rows);
    }

    /** Each text on a new object becomes HABIT 1, or is answered by a FAULT that leaves an older one alone. */
    private static void texts(String words, Object... textsAndAnswers) {
        for (int k = 0; k < textsAndAnswers.length; k += 2) {
            int due = (Integer) textsAndAnswers[k + 1];
            says("1", words, "car 0 0 1", "set 0 0 1", "read 1 '!*:=1;!*:=2;*:=3'", "read 1 '" + textsAndAnswers[k] + "' = " + due,
                "count 2 = " + (due < 0 ? 3 : due));
        }
    }

    private static void clauses() {
        texts("HABITS are TEXTS: 1 to 6 CLAUSES with ; between: ",
            "", -20, "*:+1", 1, "*:+1;*:+1", 2, SIX.substring(0, 24), 5, SIX, 6, ";*:+1", -20, "*:+1;", -25, "*:+1;;*:+1", -25,
            "*:+1*:+1", -24, "*:+1 *:+1", -25, "*:+1,*:+1", -24, "*:+1c;*:+1c", 2, "*:+1;x", -25);
        texts("a seventh CLAUSE's ; can't.",
            SIX + ";", -49, SIX + ";*:+7", -49, SIX + " ;*:+7", -50, SIX + "c;*:+7", -50, SIX + "c", 6, SIX + "  ", 6, SIX + "x", -49);
    }

    private static void acts() {
        texts(ACT,
            "*:+0", 1, "*:+9", 1, "*:-0", 1, "*:-9", 1, "*:=0", 1, "*:=9", 1, "*:+1c", 1, "*:=0c", 1, "*:-9c", 1, "*", -21, "*:", -22,
            "*+1", -21, "*:1", -22, "*:+", -23, "*:+a", -23, "*:++1", -23, "*:+-1", -23, "*:=-1", -23, "*:+10", -24, "*:+1cc", -25,
            "*:c", -22, "*:+c", -23, "*:+1C", -24, "*:*1", -22, "*:+/", -23, "*:+:", -23, "*::+1", -22, "*:+1c1", -25, "*:+1:", -24,
            "*:,1", -22, "*:<1", -22, ":+1", -20, "*;+1", -21, "+1", -20);
    }

    private static void actsAtWork() {
        String[][] acts = {{"+0", "4", "4"}, {"+9", "0", "9"}, {"+9", "9", "9"}, {"+1", "9", "9"}, {"-0", "4", "4"}, {"-9", "9", "0"},
            {"-9", "0", "0"}, {"-1", "0", "0"}, {"-1", "1", "0"}, {"=0", "9", "0"}, {"=9", "0", "9"}, {"+1", "8", "9"}, {"=5", "5", "5"}};
        for (String[] a : acts) {
            says("1", ACT, "ring 1 9", "read 0 '*:" + a[0] + "'", "car 0 0 " + a[1], "ticks 1", "told 0 2 = " + a[2], "told 0 1 = 0");
            says("1", ACT, "ring 1 9", "read 0 '*:" + a[0] + "c'", "car 0 0 " + a[1], "ticks 1", "told 0 2 = " + a[2], "told 0 1 = 1");
        }
    }

    private static void cases() {
        texts("TEST: CASES with | between; CASE: CLAIMS with & between; ",
            "|*:+1", -20, "*|:+1", -22, "*|", -22, "*||*:+1", -22, "*|*:+1", 1, "&*:+1", -20, "*&:+1", -22, "*&", -22, "*&&*:+1", -22,
            "*&|*:+1", -22, "*|&*:+1", -22, "*&*:+1", 1, "**:+1", -21, "*&*|*&*|*:+1", 1, "g<1|d<1&o<1|v<1:+1", 1, "g<1g<1:+1", -23,
            "*,*:+1", -21, "*;*:+1", -21);
    }

    private static void claims() {
        texts("CLAIM: perhaps !, then ",
            "!*:+1", 1, "!g<1:+1", 1, "!(*):+1", 1, "(!*):+1", 1, "!(!(!(!*))):+1", 1, "!!*:+1", -21, "!!g<1:+1", -21, "!!(*):+1", -21,
            "! !*:+1", -22, "!", -21, "!:+1", -21, "!&*:+1", -21, "*!:+1", -21, "*!*:+1", -21, "g!<1:+1", -21, "g<!1:+1", -22);
        texts("g (GAP), d (AHEAD's PACE less its own), o (OTHER), v (its PACE now), ",
            "g<1:+1", 1, "d<1:+1", 1, "o<1:+1", 1, "v<1:+1", 1, "c<1:+1", -20, "e<1:+1", -20, "f<1:+1", -20, "h<1:+1", -20, "n<1:+1", -20,
            "p<1:+1", -20, "u<1:+1", -20, "w<1:+1", -20, "G<1:+1", -20, "D<1:+1", -20, "O<1:+1", -20, "V<1:+1", -20, "1<g:+1", -20,
            "gd<1:+1", -21, "<1:+1", -20);
        texts("one of < > =, ",
            "g<1:+1", 1, "g>1:+1", 1, "g=1:+1", 1, "g;1:+1", -21, "g?1:+1", -21, "g1:+1", -21, "g", -21, "g:+1", -21, "g<=1:+1", -22,
            "g>=1:+1", -22, "g==1:+1", -22, "g<>1:+1", -22, "g!1:+1", -21);
    }

    private static void numbers() {
        texts("perhaps -, and 1 or 2 digits; ",
            "g<0:+1", 1, "g<9:+1", 1, "g<00:+1", 1, "g<99:+1", 1, "g<-0:+1", 1, "g<-9:+1", 1, "g<-00:+1", 1, "g<-99:+1", 1, "g<", -22,
            "g<:+1", -22, "g<-", -23, "g<-:+1", -23, "g<--1:+1", -23, "g<+1:+1", -22, "g</:+1", -22, "g<*:+1", -22, "g<x:+1", -22,
            "g<1x:+1", -23, "g<12x:+1", -24, "g<1-:+1", -23, "g<1", -23, "g<12", -24, "g<-1", -24, "g<-12", -25, "g<1/:+1", -23);
        texts("(a third digit can't stand); ", "g<100:+1", -24, "g<123", -24, "g<-100:+1", -25, "g<000:+1", -24, "g<12 3:+1", -25);
    }

    private static void brackets() {
        texts("or *, or a TEST in ( ) (4 open at once at most).",
            "*:+1", 1, "*1:+1", -21, "*<1:+1", -21, "(*):+1", 1, "():+1", -21, "(", -21, ")", -20, "(*", -22, "(*:+1", -22, "*):+1", -21,
            "(*)):+1", -23, "(*)", -23, "((((*)))):+1", 1, "(((((*))))):+1", -24, "(((((", -24, "((((", -24, "((((*)))", -28,
            "((((*))))&(((((", -34, "((((*))))&((((*)))):+1", 1, "(*)&(*)&(*)&(*)&(*)|(*):+1", 1, "((((*)&(*)))):+1", 1,
            "((((*)&((*)))):+1", -28, "!(!(!(!(!(", -29, "((((!(", -25, "(*)(*):+1", -23, "(*)*:+1", -23, "*(*):+1", -21, "(:+1)", -21,
            "(*;", -22, "(*:+1)", -22, "(*|*&*):+1", 1, "(*|):+1", -23, "(*&):+1", -23, "(|*):+1", -21, "(((*)|*)&*):+1", 1,
            "((((*)):+1", -27, "[*]:+1", -20, "(*]:+1", -22);
        texts("or *, or a TEST in ( ) (4 open at once at most).", "*:+1;((((*)))):+1", 2, "((((*)))):+1;((((*)))):+1", 2,
            "((((*)))):+1;(((((", -37);
    }

    private static void places() {
        String words = "FAULTS: -20 less the place of the first byte (behind blanks) that can't stand there (the end: how many bytes there are); ";
        String blanks = " ".repeat(99);
        texts(words, "", -20, " ", -21, "   ", -23, "x", -20, "  x", -22, "* ", -22, "* :", -23, "*: x", -23, "*:+1  x", -26, "*:+1 ;", -26,
            "*:+1 ; ", -27, "g <x", -23, "xx", -20, "x*:+1", -20, "~", -20, blanks, -119, blanks + " ", -120, blanks + "x", -119,
            "*&".repeat(50), -120, "*&".repeat(49) + "**", -119, "*&".repeat(49) + "*", -119, "*".repeat(100), -21, "(".repeat(100), -24,
            "*:=1" + " ".repeat(95) + "x", -119, "*:=1" + " ".repeat(95) + "c", 1, "*:=1" + " ".repeat(95) + ";", -120);
    }

    private static void blanks() {
        texts("bytes 32 count for nothing, but do not stand between two digits of a number ",
            " * : + 1 c ; g < - 12 & ( * ) | ! v = 3 : = 0 ", 2, "g<1 2:+1", -24, "g<1  2:+1", -25, "g< 12:+1", 1, "g<- 12:+1", 1,
            "g< - 12:+1", 1, "g<12 :+1", 1, "g<1 :+1", 1, "g<-1 2:+1", -25, "*:+ 1", 1, "*:+1 c", 1, "*:+1 2", -25, "*: +1", 1,
            "! *:+1", 1, "g <1:+1", 1, "( *):+1", 1, "(* ):+1", 1, "  *:+1", 1, "*:+1  ", 1, "* |*:+1", 1, "*& *:+1", 1, "*:+1;  *:+1", 2);
        says("1", "bytes 32 count for nothing, ", "ring 0 40", "car 0 0 0", "car 0 13 0", "read 0 ' g = 12 : = 7 '", "holds 0 = 0",
            "read 0 'g=1:=7;g=2:=7'", "holds 0 = NONE");
    }

    /** Sound texts with one byte in place of another: each is judged by the second reading too. */
    private static void everyByteAtEveryPlace() {
        String[] sound = {"g<12&!d>-3|(o=0):+1c;v=9:=0", "((((*)&g<1)|!*)):-9", SIX, "! ( ! ( * | v > 10 ) ) : - 2"};
        for (String text : sound) {
            for (int at = 0; at <= text.length(); at++) {
                for (int b = 32; b <= 126; b++) {
                    judge(text.substring(0, at) + (char) b + text.substring(Math.min(at + 1, text.length())));
                    judge(text.substring(0, at) + (char) b + text.substring(at));
                }
                judge(text.substring(0, at));
            }
        }
    }

    private static void judge(String text) {
        int fault = PlainModel.faultOf(text);
        Due.habit(new KnotRing(), 0, text, fault >= 0 ? -20 - fault : text.split(";").length);
    }

    private static void truth() {
        String[] state = {"car 0 28 3", "car 0 3 1", "car 1 5 0"};
        around(state, "g", 4);
        around(state, "d", -2);
        around(state, "o", 7);
        around(state, "v", 3);
        around(new String[] {"ring 0 99", "car 0 98 0"}, "g", 98);
        around(new String[] {"ring 0 99", "car 0 98 0"}, "d", 0);
        around(new String[] {"ring 0 99", "car 0 97 0", "car 1 96 0"}, "o", 98);
        around(new String[] {"car 0 29 0", "car 0 0 9"}, "d", 9);
        around(new String[] {"car 0 29 9", "car 0 0 0"}, "d", -9);
        around(new String[] {"car 0 29 9", "car 0 0 0"}, "g", 0);
        around(new String[] {"car 0 29 9", "car 1 29 0"}, "o", 0);
        around(new String[] {"car 0 29 9"}, "v", 9);
        String words = "one of < > =, perhaps -, and 1 or 2 digits; ";
        says("1", words, "ring 0 99", "car 0 0 0", "read 0 'o=99:=0'", "holds 0 = 0", "read 0 'o>98:=0'", "holds 0 = 0", "read 0 'o<99:=0'",
            "holds 0 = NONE", "read 0 'o>99:=0'", "holds 0 = NONE", "read 0 'g>-99:=0'", "holds 0 = 0", "read 0 'g<-99:=0'", "holds 0 = NONE");
        says("1", words, "car 0 0 0", "read 0 'v=-0:=0'", "holds 0 = 0", "read 0 'v=00:=0'", "holds 0 = 0", "read 0 'v<-0:=0'", "holds 0 = NONE");
        formulas();
    }

    /** A value against the numbers just below it, of it, and just above it; and the same with ! ahead. */
    private static void around(String[] state, String letter, int value) {
        for (int by = -1; by <= 1; by++) {
            for (int how = -1; how <= 1; how++) {
                String claim = letter + "<=>".charAt(how + 1) + (value + by);
                boolean so = Integer.signum(-by) == how;
                Rows.says("1", "g (GAP), d (AHEAD's PACE less its own), o (OTHER), v (its PACE now), one of < > =, ",
                    Rows.join(state, "read 0 '" + claim + ":=0'", "holds 0 = " + (so ? "0" : "NONE"), "read 0 '!" + claim + ":=0'",
                        "holds 0 = " + (so ? "NONE" : "0"), "read 0 '!(!" + claim + "):=0'", "holds 0 = " + (so ? "0" : "NONE")));
            }
        }
    }

    /** All ways of * and !* in three places between which & and | stand. */
    private static void formulas() {
        for (int bits = 0; bits < 8; bits++) {
            boolean a = (bits & 1) != 0;
            boolean b = (bits & 2) != 0;
            boolean c = (bits & 4) != 0;
            String x = a ? "*" : "!*";
            String y = b ? "v=3" : "v=4";
            String z = c ? "!g<3" : "!g>3";
            formula(x + "&" + y + "&" + z, a && b && c);
            formula(x + "|" + y + "|" + z, a || b || c);
            formula(x + "&" + y + "|" + z, a && b || c);
            formula(x + "|" + y + "&" + z, a || b && c);
            formula("(" + x + "|" + y + ")&" + z, (a || b) && c);
            formula(x + "&(" + y + "|" + z + ")", a && (b || c));
            formula("!(" + x + "&" + y + ")|" + z, !(a && b) || c);
            formula("!(" + x + "|!(" + y + "&!(" + z + ")))", !(a || !(b && !c)));
            formula("((((" + x + ")&" + y + ")|" + z + "))", a && b || c);
        }
    }

    private static void formula(String test, boolean so) {
        says("1", "TEST: CASES with | between; CASE: CLAIMS with & between; CLAIM: perhaps !, then ", "car 0 28 3",
            "read 0 '" + test + ":=0'", "holds 0 = " + (so ? "0" : "NONE"));
    }

    private static void noClauses() {
        String words = "(No CLAUSES at first: all go on as they do.)";
        says("1", words, "count 1 = 0", "count 2 = 0", "count 3 = 0", "evenly 3 4", "set 1 0 1", "set 2 0 2", "holds 0 = NONE",
            "holds 1 = NONE", "holds 2 = NONE", "ticks 2", "told 0 2 = 4", "told 1 2 = 4", "told 2 2 = 4", "told 0 0 = 8", "told 0 1 = 0",
            "told 2 7 = 0");
        says("1", words, "car 0 0 0", "ticks 200", "told 0 0 = 0");
        says("1", words, "read 0 'x' = -20", "count 1 = 0", "car 0 0 2", "ticks 1", "told 0 2 = 2");
    }

    private static void type() {
        String words = "BAD: n, a byte not 32 .. 126;";
        says("P7", words, "type 0x2a2a 0 = BAD", "type 0x2a2a 9 = BAD", "type 0x2a2a -1 = BAD", "type 0x2a2a LOW = BAD",
            "type 0x2a2a HIGH = BAD", "type 0x2a 1 = 1", "type 0x2a2a2a2a2a2a2a2a 8 = 9");
        says("P7", words, "type 0x2a2a2a2a2a2a2a2a 9 = BAD", "type 0x2a2a2a2a2a2a2a2a 0 = BAD", "type 0x2a2a2a2a2a2a2a2a 64 = BAD",
            "type 0x2a2a2a2a2a2a2a2a -8 = BAD", "type 0x2a2a2a2a2a2a2a2a 264 = BAD");
        says("P7", words, "type 0x1f 1 = BAD", "type 0x20 1 = 1", "type 0x7e 1 = 2", "type 0x7f 1 = BAD", "type 0x80 1 = BAD",
            "type 0xff 1 = BAD", "type 0x00 1 = BAD", "type -1 8 = BAD", "type 0 8 = BAD", "type 0xa0 1 = BAD");
        for (int k = 0; k < 8; k++) {
            for (int b : new int[] {0, 31, 127, 128, 255}) {
                long w = 0x2a2a2a2a2a2a2a2aL & ~(255L << 8 * k) | (long) b << 8 * k;
                says("P7", words, "text '* '", "type " + w + " 8 = BAD", "type " + w + " " + (k + 1) + " = BAD",
                    k > 0 ? "type " + w + " " + k + " = " + (2 + k) : "type " + w + " 1 = BAD");
            }
        }
        words = "The n lowest bytes (1 .. 8) of w, of these the highest first, come behind THE TAPE: how many it has.";
        says("P7", words, "type 0x2a3a2b31 4 = 4", "habit 0 = 1");
        says("P7", words, "type 0x312b3a2a 4 = 4", "habit 0 = -20");
        says("P7", words, "type 0xff2a 1 = 1", "type 0xffffffffff3a2b31 3 = 4", "habit 0 = 1");
        says("P7", words, "type 0x2a3a2b313b2a3a2b 8 = 8", "type 0x31 1 = 9", "habit 0 = 2");
        says("P7", words, "type 0x2a 1 = 1", "type 0x3a 1 = 2", "type 0x2b 1 = 3", "type 0x31 1 = 4", "habit 0 = 1");
    }

    private static void full() {
        String words = "FULL: 100.";
        says("P7", words, "12x type 0x2020202020202020 8", "type 0x2a3a2b3120 5 = FULL", "type 0x2a3a2b3120202020 8 = FULL",
            "type 0x2a3a2b1f20 5 = BAD", "type 0x2a3a2b31 4 = 100", "type 0x20 1 = FULL", "type 0x1f 1 = BAD", "type 0x20 9 = BAD",
            "type 0x2020202020202020 8 = FULL", "habit 0 = 1", "type 0x20 1 = 1");
        says("P7", words, "99x type 0x20 1", "type 0x2020 2 = FULL", "type 0x20 1 = 100", "type 0x20 1 = FULL", "habit 0 = -120");
        says("P7", words, "12x type 0x2020202020202020 8", "habit 0 = -116", "12x type 0x2020202020202020 8", "type 0x202020 3 = 99",
            "type 0x20 1 = 100");
    }

    private static void habit() {
        String words = "THE TAPE, which is empty then, is a HABIT: how many CLAUSES.";
        says("P8", words, "text '*:+1;*:+2'", "habit 0 = 2", "count 1 = 2", "type 0x2a 1 = 1", "habit 0 = -21", "habit 0 = -20", "count 1 = 2");
        says("P8", words, "read 0 '*:+1' = 1", "read 1 '*:+1;*:+1' = 2", "read 2 '" + SIX + "' = 6", "count 1 = 1", "count 2 = 2",
            "count 3 = 6", "read 2 '*:+1' = 1", "count 3 = 1", "count 1 = 1", "count 2 = 2");
        says("P8", words, "read 0 '" + "*&".repeat(48) + "*:=1' = 1", "car 0 0 0", "holds 0 = 0");
        says("P8", words, "read 0 '" + "!*|".repeat(32) + "*:=1' = 1", "car 0 0 0", "holds 0 = 0");
        says("P8", words, "read 0 '" + "((((*))))|".repeat(9) + "((!*)):=1c' = 1", "car 0 0 0", "holds 0 = 0");
        says("P8", words, "read 0 '!*:+1;!*:+2;!*:+3;!*:+4;!*:+5;g>0&(g<99|!*)&d=0&o>9&!v>0&(!(!(!(!*)))):=3 c           ' = 6", "car 0 0 0",
            "holds 0 = 5", "ticks 1", "told 0 2 = 3", "told 0 1 = 1");
        says("P8", words, "car 0 0 3", "30x read 0 '(!*&*)|(*&!*)|!(*|v=3):=9'", "holds 0 = NONE", "read 0 'v=4:=1;!(v=3&!(g=29|*)):=2'",
            "holds 0 = 1", "ticks 1", "told 0 2 = 2");
        words = "BAD (THE TAPE stays);";
        says("P8", words, "text '*:+1'", "habit 3 = BAD", "habit -1 = BAD", "habit LOW = BAD", "habit HIGH = BAD", "type 0x20 1 = 5", "habit 2 = 1");
        says("P8", words, "habit 3 = BAD", "habit -1 = BAD", "type 0x20 1 = 1");
        says("P8", words, "text 'x'", "habit 3 = BAD", "type 0x20 1 = 2", "habit 2 = -20");
        says("P8", "a FAULT.", "text '*:+1'", "habit 1 = 1", "text '*:+1;'", "habit 1 = -25", "count 2 = 1", "type 0x20 1 = 1", "habit 0 = -21");
        says("P8", "a FAULT.", "car 0 0 0", "read 0 '*:=2'", "read 0 '*:=3x' = -24", "ticks 1", "told 0 2 = 2");
    }

    private static void holds() {
        says("P9", "BAD;", "holds 0 = BAD", "evenly 2 0", "holds 2 = BAD", "holds -1 = BAD", "holds LOW = BAD", "holds HIGH = BAD",
            "read 0 '*:+1'", "holds 2 = BAD", "holds 1 = 0", "holds 0 = 0");
        says("P9", "NONE.", "evenly 12 0", "holds 11 = NONE", "read 0 '!*:+1'", "holds 11 = NONE", "holds 12 = BAD", "read 0 '!*:+1;*:+2'",
            "holds 11 = 1");
        String words = "The CLAUSE that would hold for a CAR, if it saw just what is NOW.";
        says("P9", words, "read 1 'v=0:=1;v=1:=2;v=2:=3;v=3:=4;v=4:=5;v=5:=0'", "car 0 0 0", "set 0 0 1", "set 0 1 3", "holds 0 = 0", "ticks 1",
            "holds 0 = 1", "ticks 4", "holds 0 = 5", "ticks 1", "holds 0 = 0");
        says("P9", words, "read 0 'o=9:=1;o=8:=1;o=7:=1;*:=1'", "car 0 0 0", "car 1 10 0", "read 1 '!*:=0'", "set 1 0 1", "set 0 1 3", "holds 0 = 3",
            "ticks 1", "holds 0 = 0", "ticks 1", "holds 0 = 1", "ticks 1", "holds 0 = 2");
        says("P9", words, "read 0 '*:+1;*:+2'", "car 0 0 0", "holds 0 = 0", "tap 0", "holds 0 = 0");
    }
}
