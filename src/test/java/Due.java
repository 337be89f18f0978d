/** What the tests share: an answer against the one that is due, and texts typed in pieces of eight bytes. */
final class Due {
    private static int wrong = 0;
    private static int looked = 0;

    private Due() {
    }

    static void is(String call, long got, long want) {
        looked++;
        if (got != want) {
            wrong++;
            System.out.println(call + " answered " + got + ", due is " + want);
        }
    }

    static void holds(String what, boolean so) {
        looked++;
        if (!so) {
            wrong++;
            System.out.println("not so: " + what);
        }
    }

    static int wrong() {
        return wrong;
    }

    static void type(KnotRing x, String text) {
        for (int i = 0; i < text.length(); i += 8) {
            String piece = text.substring(i, Math.min(text.length(), i + 8));
            is("type '" + piece + "'", x.type(packed(piece), piece.length()), i + piece.length());
        }
    }

    static long packed(String piece) {
        long w = 0;
        for (int k = 0; k < piece.length(); k++) {
            w = w << 8 | piece.charAt(k);
        }
        return w;
    }

    /** A text that is sound becomes a habit. */
    static void habit(KnotRing x, int number, String text, int clauses) {
        type(x, text);
        is("habit(" + number + ") of '" + text + "'", x.habit(number), clauses);
    }

    static void end() {
        System.out.println(looked + " looked at, " + wrong + " wrong");
        if (wrong != 0) {
            System.exit(1);
        }
    }
}
