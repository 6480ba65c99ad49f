import java.util.NoSuchElementException;

/** What the tests share: counting wrong answers, telling texts, and all that an object tells of itself. */
final class Check {
    static final int LEAST = Integer.MIN_VALUE;
    static final int MOST = Integer.MAX_VALUE;

    private static int wrong = 0;
    private static int looked = 0;
    private static String part = "";

    /** What is done to an object. */
    interface Act {
        void on(PegBands x);
    }

    private Check() {
    }

    /** Which sentence of the document the answers from here on speak of. */
    static void part(String sentence) {
        part = sentence + ": ";
    }

    static void due(String what, long got, long want) {
        looked++;
        if (got != want) {
            wrong++;
            System.out.println(part + what + " answered " + got + ", due is " + want);
        }
    }

    static void due(String what, boolean got, boolean want) {
        due(what, got ? 1 : 0, want ? 1 : 0);
    }

    static void due(String what, String got, String want) {
        looked++;
        if (!got.equals(want)) {
            wrong++;
            System.out.println(part + what + " answered '" + got + "', due is '" + want + "'");
        }
    }

    static void finish() {
        System.out.println(looked + " answers looked at, " + wrong + " not as due");
        if (wrong != 0 || looked == 0) {
            System.exit(1);
        }
    }

    /** The tape holds this text and nothing else. */
    static void tell(PegBands x, String text) {
        x.end(0);
        for (int i = 0; i < text.length(); i += 20) {
            int[] five = new int[5];
            for (int j = 0; j < 20; j++) {
                int c = i + j < text.length() ? text.charAt(i + j) : 0;
                five[j / 4] |= (c & 255) << (24 - 8 * (j % 4));
            }
            x.feed(five[0], five[1], five[2], five[3], five[4]);
        }
        due("end of the tape", x.end(text.length()), true);
    }

    static int board(PegBands x, String text) {
        tell(x, text);
        return x.board();
    }

    static int calls(PegBands x, String text) {
        tell(x, text);
        return x.calls();
    }

    static int sentence(PegBands x, String text) {
        tell(x, text);
        return x.sentence();
    }

    /** A new object with this board, which must be without a fault. */
    static PegBands on(String text) {
        PegBands x = new PegBands();
        int lines = board(x, text);
        due("board '" + text + "' is fine", lines > 0 && x.fault() == 0, true);
        return x;
    }

    static boolean throwsNoSuch(PegBands x, int b, int what) {
        try {
            x.band(b, what);
        } catch (NoSuchElementException e) {
            return true;
        }
        return false;
    }

    /** The text made last. */
    static String made(PegBands x, int length) {
        StringBuilder s = new StringBuilder();
        for (int i = 0; i < length; i++) {
            s.append((char) x.byteAt(i));
        }
        due("byte behind the text", x.byteAt(length), -1);
        due("byte ahead of the text", x.byteAt(-1), -1);
        return s.toString();
    }

    static String form(PegBands x, int b, int how) {
        int n = x.form(b, how);
        StringBuilder s = new StringBuilder();
        for (int i = 0; i < n; i++) {
            s.append(i == 0 ? "" : " ").append(x.formAt(i));
        }
        due("number behind the form", x.formAt(n), -1);
        due("number ahead of the form", x.formAt(-1), -1);
        return s.toString();
    }

    static String blanks(int n) {
        return " ".repeat(n);
    }

    /** Corners of all bands, one row behind another. */
    static String bands(PegBands x) {
        StringBuilder s = new StringBuilder();
        for (int b = 0; x.corner(b, 0) != -1; b++) {
            s.append(corners(x, b)).append(';');
        }
        return s.toString();
    }

    static String corners(PegBands x, int b) {
        StringBuilder s = new StringBuilder();
        for (int i = 0; x.corner(b, i) != -1; i++) {
            s.append(i == 0 ? "" : " ").append(x.corner(b, i));
        }
        return s.toString();
    }

    /** Board, bands, calls, lines and sentence, as far as questions tell them. */
    static String told(PegBands x) {
        StringBuilder s = new StringBuilder("counts");
        for (int what = 0; what < 7; what++) {
            s.append(' ').append(x.count(what));
        }
        s.append(" pegs ");
        // An object answers 512 calls, so each of them counts.
        int w = x.count(0);
        int h = x.count(1);
        for (int i = 0; i < w * h; i++) {
            s.append(x.peg(10 * (i / w) + i % w));
        }
        s.append(" bands ").append(bands(x)).append(" closes ").append(x.closes()).append(" mended");
        for (int k = -1; k < 3; k++) {
            s.append(' ').append(x.mended(k));
        }
        s.append(" lines ").append(x.lines(-1)).append(' ').append(x.lines(0)).append(" said");
        for (int k = -1; k < 3; k++) {
            s.append(' ').append(x.said(k));
        }
        return s.toString();
    }

    /**
     * What is there but the tape and the latest fault: it is found by changing it, so the object is used up.
     * The last things told, what the calls lay, what can be undone, and both images.
     */
    static String rest(PegBands x) {
        StringBuilder s = new StringBuilder(told(x));
        s.append(" form");
        for (int i = 0; i < 17; i++) {
            s.append(' ').append(x.formAt(i));
        }
        s.append(" text ");
        for (int i = 0; x.byteAt(i) != -1; i++) {
            s.append((char) x.byteAt(i));
        }
        s.append(" lay ").append(x.lay()).append(' ').append(bands(x));
        int more = 0;
        for (int i = 0; i < 10 && more != -1; i++) {
            more = x.undo();
            s.append(" undo ").append(more).append(' ').append(bands(x));
        }
        for (int k = 0; k < 2; k++) {
            s.append(" restore ").append(x.restore(k)).append(' ').append(told(x));
        }
        return s.toString();
    }

    /** All of it: the latest fault, what its band was wrong by, and the tape, which is read as a sentence, too. */
    static String whole(PegBands x) {
        String first = "fault " + x.fault() + " why " + x.why() + " tape " + x.count(7) + ' ' + rest(x);
        return first + " read " + x.sentence() + " fault " + x.fault();
    }

    /** Two objects are made alike, and one of them is asked for what is refused: both stay alike. */
    static void changesNothing(String what, Act made, Act refused) {
        PegBands x = new PegBands();
        PegBands y = new PegBands();
        made.on(x);
        made.on(y);
        refused.on(x);
        due(what + " changes nothing", whole(x), whole(y));
    }

    /** A board of 8 pegs with a band that was moved, calls that can be laid, a line, a sentence, an image. */
    static void makeRich(PegBands x) {
        due("rich board", board(x, "board 3 3;out 2 2;band a 0 0 1 0 0 1;"), 3);
        due("rich calls", calls(x, "at 1 1;by 1 0;by -1 1;by 0 -1;"), 3);
        due("rich sentence", sentence(x, "alike a or bent"), 2);
        due("rich image", x.image(1), true);
        due("rich move", x.move(0, 2, 20), 0);
        due("rich slide", x.slide(0, 0, 0), 0);
        due("rich line", x.line(11, 12), true);
        due("rich text", x.write(0), 30);
        due("rich form", x.form(0, 0), 6);
    }
}
