import java.util.NoSuchElementException;

/** What the tests share: counting wrong answers, and telling texts. */
final class Check {
    private static int wrong = 0;
    private static int looked = 0;

    private Check() {
    }

    static void due(String what, long got, long want) {
        looked++;
        if (got != want) {
            wrong++;
            System.out.println(what + " answered " + got + ", due is " + want);
        }
    }

    static void due(String what, boolean got, boolean want) {
        due(what, got ? 1 : 0, want ? 1 : 0);
    }

    static void due(String what, String got, String want) {
        looked++;
        if (!got.equals(want)) {
            wrong++;
            System.out.println(what + " answered '" + got + "', due is '" + want + "'");
        }
    }

    static void finish() {
        System.out.println(looked + " answers looked at, " + wrong + " not as due");
        if (wrong != 0 || looked == 0) {
            System.exit(1);
        }
    }

    /** The tape holds this text and nothing else. */
    static void tell(PegBands x, String text) {
        x.end(0);
        for (int i = 0; i < text.length(); i += 20) {
            int[] five = new int[5];
            for (int j = 0; j < 20; j++) {
                int c = i + j < text.length() ? text.charAt(i + j) : 0;
                five[j / 4] |= (c & 255) << (24 - 8 * (j % 4));
            }
            x.feed(five[0], five[1], five[2], five[3], five[4]);
        }
        due("end of the tape", x.end(text.length()), true);
    }

    static int board(PegBands x, String text) {
        tell(x, text);
        return x.board();
    }

    static int calls(PegBands x, String text) {
        tell(x, text);
        return x.calls();
    }

    static int sentence(PegBands x, String text) {
        tell(x, text);
        return x.sentence();
    }

    /** A new object with this board, which must be without a fault. */
    static PegBands on(String text) {
        PegBands x = new PegBands();
        int lines = board(x, text);
        due("board '" + text + "' is fine", lines > 0 && x.fault() == 0, true);
        return x;
    }

    static boolean throwsNoSuch(PegBands x, int b, int what) {
        try {
            x.band(b, what);
        } catch (NoSuchElementException e) {
            return true;
        }
        return false;
    }

    /** The text made last. */
    static String made(PegBands x, int length) {
        StringBuilder s = new StringBuilder();
        for (int i = 0; i < length; i++) {
            s.append((char) x.byteAt(i));
        }
        due("byte behind the text", x.byteAt(length), -1);
        due("byte ahead of the text", x.byteAt(-1), -1);
        return s.toString();
    }

    static String form(PegBands x, int b, int how) {
        int n = x.form(b, how);
        StringBuilder s = new StringBuilder();
        for (int i = 0; i < n; i++) {
            s.append(i == 0 ? "" : " ").append(x.formAt(i));
        }
        due("number behind the form", x.formAt(n), -1);
        due("number ahead of the form", x.formAt(-1), -1);
        return s.toString();
    }

    static String blanks(int n) {
        return " ".repeat(n);
    }
}
