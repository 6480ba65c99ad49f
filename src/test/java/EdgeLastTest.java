/** The boundaries in promises 25 to 43. Each part names its promise and its sentence. */
public final class EdgeLastTest {
    private static final int LEAST = Check.LEAST;
    private static final int MOST = Check.MOST;
    private static final int[] NO_K = {-2, -3, LEAST, MOST};

    public static void main(String[] args) {
        callsMany();
        callsStay();
        closes();
        mendedMany();
        mendedNone();
        layLast();
        layWrong();
        layOpen();
        layFull();
        layNone();
        write();
        writeNone();
        byteAt();
        triangles();
        trianglesNone();
        smallest();
        cuts();
        cutsNone();
        moved();
        movedNone();
        lineLaid();
        lineFalse();
        lines();
        linesNone();
        wins();
        winsNone();
        again();
        sentenceOnes();
        sentenceStays();
        said();
        saidNone();
        image();
        imageFalse();
        restore();
        restoreLeaves();
        restoreFalse();
        count();
        countNone();
        Check.finish();
    }

    /** A rich object with a tape and a fault behind it. */
    private static void rich(PegBands x) {
        Check.makeRich(x);
        Check.due("a fault", Check.board(x, "board 5 5;band a 0 0 1 1 2 2;"), -29);
        Check.tell(x, "bent and");
    }

    /** The answer to a call that is refused, and that nothing changes by it. */
    private static void refused(String what, Check.Act call) {
        Check.changesNothing(what, EdgeLastTest::rich, call);
    }

    private static void none(String what, int got) {
        Check.due(what, got, -1);
    }

    private static void callsMany() {
        Check.part("Promise 25: the tape are the CALLS now: how many of 'by'");
        PegBands x = Check.on("board 5 5;");
        Check.due("3", Check.calls(x, "at 0 0;" + "by 0 0;".repeat(3)), 3);
        Check.due("3", x.count(5), 3);
        Check.due("8", Check.calls(x, "at 0 0;" + "by 0 0;".repeat(8)), 8);
        Check.due("8", x.count(5), 8);
        // New ones come in place of the old ones, whole.
        Check.due("3", Check.calls(x, "at 4 4;by -1 0;by 0 -1;by 1 1;"), 3);
        Check.due("lay", x.lay(), 0);
        Check.due("bands", Check.bands(x), "44 43 33;");
    }

    private static void callsStay() {
        Check.part("Promise 25: -1 less the place of a FAULT: they stay");
        String[] texts = {"", "at 3 0;", "at 0 0;by 1 0;by 1 0;", "at 0 0;by 10 0;", "at 0 0;" + "by 0 0;".repeat(9)};
        int[] places = {0, 3, 21, 10, 63};
        for (int i = 0; i < texts.length; i++) {
            PegBands x = new PegBands();
            PegBands y = new PegBands();
            Check.makeRich(x);
            Check.makeRich(y);
            Check.due("calls '" + texts[i] + "'", Check.calls(x, texts[i]), -1 - places[i]);
            Check.due("all stays", Check.rest(x), Check.rest(y));
        }
        PegBands none = Check.on("board 5 5;");
        Check.due("a fault", Check.calls(none, "at 0 0;by 1 0;by 1 0;by 1 0"), -28);
        none("there are none still", none.closes());
        // Without a board no number is below W.
        PegBands bare = new PegBands();
        Check.due("no board", Check.calls(bare, "at 0 0;by 1 0;by 0 1;by -1 -1;"), -4);
        Check.due("fault", bare.fault(), 2);
        none("no calls", bare.closes());
    }

    private static void closes() {
        Check.part("Promise 26: 1: the CALLS CLOSE; 0: not; NONE: there are none");
        PegBands x = Check.on("board 5 5;");
        none("none", x.closes());
        Check.due("calls", Check.calls(x, "at 0 0;by 1 0;by 0 1;by -1 -1;"), 3);
        Check.due("they close", x.closes(), 1);
        Check.due("calls", Check.calls(x, "at 0 0;by 1 0;by 0 1;by -1 0;"), 3);
        Check.due("they don't", x.closes(), 0);
        Check.due("a new board", Check.board(x, "board 5 5;"), 1);
        none("none any more", x.closes());
    }

    private static void mendedMany() {
        Check.part("Promise 27: how many (k NONE), or the k-th");
        PegBands x = Check.on("board 5 5;");
        Check.due("calls", Check.calls(x, "at 0 0;by 2 0;by 0 2;by -1 -1;"), 3);
        Check.due("how many", x.mended(-1), 2);
        Check.due("the first", x.mended(0), 1);
        Check.due("the second", x.mended(1), 2);
        none("behind the last", x.mended(2));
        for (int k : NO_K) {
            none("mended(" + k + ")", x.mended(k));
        }
        Check.due("they stay as told", x.closes(), 0);
        Check.due("calls", Check.calls(x, "at 0 0;by 1 0;by 1 0;by 0 1;"), 3);
        Check.due("by none", x.mended(-1), 0);
        none("no first", x.mended(0));
        // All eight: an octagon whose last 'by' is one too long, and each of them may be bent by one.
        PegBands y = Check.on("board 10 10;");
        Check.due("calls", Check.calls(y, "at 3 2;by 2 0;by 2 2;by 0 2;by -2 2;by -2 0;by -2 -2;by 0 -2;by 2 -3;"), 8);
        Check.due("all eight", y.mended(-1), 8);
        Check.due("the last", y.mended(7), 7);
        none("no ninth", y.mended(8));
    }

    private static void mendedNone() {
        Check.part("Promise 27: NONE: none such, no CALLS, they CLOSE");
        PegBands x = Check.on("board 5 5;");
        none("no calls", x.mended(-1));
        none("no calls", x.mended(0));
        Check.due("calls", Check.calls(x, "at 0 0;by 1 0;by 0 1;by -1 -1;"), 3);
        none("they close", x.mended(-1));
        none("they close", x.mended(0));
        none("no board", new PegBands().mended(-1));
    }

    private static void layLast() {
        Check.part("Promise 28: a BAND as the CALLS tell is laid, the last one, without a NAME: 0");
        PegBands x = Check.on("board 6 6;band a 0 0 1 0 0 1;");
        Check.due("calls", Check.calls(x, "at 5 5;by -2 0;by 2 -2;by 0 2;"), 3);
        Check.due("lay", x.lay(), 0);
        Check.due("bands", Check.bands(x), "0 1 10;55 53 35;");
        Check.due("the calls stay", x.count(5), 3);
        Check.due("eight corners", Check.calls(x, "at 2 0;by 2 0;by 0 1;by 1 0;by 0 1;by -2 0;by 0 -1;by -1 0;by 0 -1;"), 8);
        Check.due("lay", x.lay(), 0);
        Check.due("bands", Check.bands(x), "0 1 10;55 53 35;2 4 14 15 25 23 13 12;");
    }

    private static void layWrong() {
        Check.part("Promise 28: 0, or WRONG");
        String[] calls = {"at 5 0;by 1 0;by -1 1;by 0 -1;", "at 5 5;by -1 0;by 1 -1;by 0 1;", "at 2 2;by 1 0;by -1 0;by 0 0;",
            "at 2 2;by 1 0;by 1 0;by -2 0;", "at 2 2;by 1 1;by 0 -1;by -1 1;by 0 -1;", "at 1 0;by 1 0;by 0 1;by -1 -1;"};
        int[] wrong = {1, 1, 2, 3, 4, 5};
        for (int i = 0; i < calls.length; i++) {
            String text = calls[i];
            int due = wrong[i];
            Check.changesNothing("lay", x -> told(x, text), x -> Check.due("lay '" + text + "'", x.lay(), due));
        }
    }

    private static void told(PegBands x, String calls) {
        Check.due("board", Check.board(x, "board 6 6;out 5 5;band a 0 0 1 0 0 1;"), 3);
        Check.due("slide", x.slide(0, 0, 0), 0);
        Check.due("calls '" + calls + "'", Check.calls(x, calls) > 0, true);
    }

    private static void layOpen() {
        Check.part("Promise 28: 6: they don't CLOSE, ahead of all");
        String[] calls = {"at 5 0;by 1 0;by -1 1;by 0 0;", "at 5 5;by 0 0;by 1 0;by 0 0;", "at 2 2;by 1 0;by -1 1;by 0 -2;",
            "at 0 0;by 1 0;by 0 1;by -1 0;"};
        for (String text : calls) {
            Check.changesNothing("lay", x -> told(x, text), x -> Check.due("lay '" + text + "'", x.lay(), 6));
        }
        PegBands x = eight("");
        Check.due("calls", Check.calls(x, "at 0 5;by 1 0;by 0 1;by -1 0;"), 3);
        Check.due("ahead of 7", x.lay(), 6);
    }

    /** Eight bands apart from one another. */
    private static PegBands eight(String bell) {
        StringBuilder s = new StringBuilder("board 10 10;" + bell);
        for (int i = 0; i < 8; i++) {
            s.append("band ").append((char) ('a' + i)).append(" " + i + " 0 " + i + " 1 " + (i + 1) + " 2;");
        }
        return Check.on(s.toString());
    }

    private static void layFull() {
        Check.part("Promise 28: 7: there are 8 BANDS, behind all");
        PegBands x = eight("");
        String[] calls = {"at 9 9;by 1 0;by -1 -1;by 0 1;", "at 5 5;by 1 0;by -1 0;by 0 0;", "at 5 5;by 1 0;by 1 0;by -2 0;",
            "at 5 5;by 1 1;by 0 -1;by -1 1;by 0 -1;", "at 0 0;by 1 0;by 0 1;by -1 -1;", "at 5 5;by 1 0;by 0 1;by -1 -1;"};
        int[] due = {1, 2, 3, 4, 5, 7};
        for (int i = 0; i < calls.length; i++) {
            Check.due("calls", Check.calls(x, calls[i]) > 0, true);
            Check.due("lay '" + calls[i] + "'", x.lay(), due[i]);
            Check.due("eight stay", x.count(2), 8);
        }
        none("nothing can be undone", x.undo());
        Check.due("one snaps", x.snap(7), 3);
        Check.due("the eighth", x.lay(), 0);
        Check.due("eight", x.count(2), 8);
        Check.due("the last one", Check.corners(x, 7), "55 56 66");
        PegBands y = eight("bell;");
        Check.due("calls", Check.calls(y, "at 0 0;by 1 0;by 0 1;by -1 -1;"), 3);
        Check.due("with a bell", y.lay(), 7);
    }

    private static void layNone() {
        Check.part("Promise 28: NONE: no CALLS");
        none("a new object", new PegBands().lay());
        PegBands x = Check.on("board 5 5;");
        none("a new board", x.lay());
        none("nothing can be undone", x.undo());
        PegBands y = eight("");
        none("ahead of 7", y.lay());
    }

    private static void write() {
        Check.part("Promise 29: WORDS and NUMBERS with one blank between, - right ahead of a NUMBER, ; behind each: how many bytes");
        PegBands x = Check.on("board 10 10;bell;band a 9 9 8 9 9 8;band b 2 1 3 0 5 0 6 1 6 3 5 4 3 4 2 3;");
        int n = x.write(0);
        Check.due("bytes", n, 30);
        Check.due("text", Check.made(x, n), "at 9 9;by -1 0;by 1 -1;by 0 1;");
        n = x.write(1);
        Check.due("bytes", n, 69);
        Check.due("text", Check.made(x, n), "at 2 1;by 1 -1;by 2 0;by 1 1;by 0 2;by -1 1;by -2 0;by -1 -1;by 0 -2;");
        // All sides lead back or ahead at once: the most signs that the shorter way can have.
        PegBands y = Check.on("board 10 10;band a 0 4 1 2 2 4 3 0 4 4 5 0 6 4 3 9;");
        n = y.write(0);
        Check.due("bytes", n, 7 + 8 * 7 + 6);
        Check.due("text", Check.made(y, n), "at 0 4;by 1 -2;by 1 2;by 1 -4;by 1 4;by 1 -4;by 1 4;by -3 5;by -3 -5;");
    }

    private static void writeNone() {
        Check.part("Promise 29: NONE: no such BAND");
        int[] no = {-1, 1, 7, 8, LEAST, MOST};
        for (int b : no) {
            refused("write(" + b + ")", x -> none("write", x.write(b)));
        }
        PegBands x = eight("");
        Check.due("the eighth", x.write(7), 30);
        none("no ninth", x.write(8));
    }

    private static void byteAt() {
        Check.part("Promise 30: byte i of the text made last; NONE: there is none such");
        PegBands x = Check.on("board 10 10;bell;band a 2 1 3 0 5 0 6 1 6 3 5 4 3 4 2 3;band b 9 9 8 9 9 8;");
        none("none made yet", x.byteAt(0));
        Check.due("write", x.write(0), 69);
        Check.due("byteAt(0)", x.byteAt(0), 'a');
        Check.due("byteAt(2)", x.byteAt(2), ' ');
        Check.due("byteAt(68)", x.byteAt(68), ';');
        int[] no = {-1, 69, 70, 640, LEAST, MOST};
        for (int i : no) {
            none("byteAt(" + i + ")", x.byteAt(i));
        }
        Check.due("a shorter one", x.write(1), 30);
        Check.due("byteAt(29)", x.byteAt(29), ';');
        none("byteAt(30)", x.byteAt(30));
        Check.due("the band snaps", x.snap(1), 3);
        Check.due("made last still", x.byteAt(3), '9');
        Check.due("a new board", Check.board(x, "board 2 2;"), 1);
        Check.due("made last still", x.byteAt(3), '9');
    }

    private static void triangles() {
        Check.part("Promise 31: how many (k NONE), or the k-th: three PEG numbers as they rise (rising)");
        PegBands x = Check.on("board 10 10;");
        Check.due("largest ones", x.triangles(27, 28, -1), 4);
        Check.due("the first", x.triangles(27, 28, 0), 990);
        Check.due("the last", x.triangles(27, 28, 3), 99099);
        none("behind the last", x.triangles(27, 28, 4));
        int many = x.triangles(3, 0, -1);
        Check.due("the first of all", x.triangles(3, 0, 0), 110);
        Check.due("the last of all", x.triangles(3, 0, many - 1), 899899);
        none("behind the last", x.triangles(3, 0, many));
        PegBands y = Check.on("board 3 3;");
        for (int on = 3; on < 7; on++) {
            int before = -1;
            for (int k = 0; k < y.triangles(on, 0, -1); k++) {
                int now = y.triangles(on, 0, k);
                Check.due("they rise", now > before, true);
                Check.due("each as its pegs rise", now / 10000 < now / 100 % 100 && now / 100 % 100 < now % 100, true);
                before = now;
            }
        }
    }

    private static void trianglesNone() {
        Check.part("Promise 31: (0 to 999). NONE: none such, no BOARD, not as told");
        PegBands x = Check.on("board 3 3;");
        int[][] none = {{0, 0}, {999, 0}, {0, 999}, {999, 999}, {1, 0}, {2, 0}, {5, 0}, {3, 2}, {0, 1}, {1, 1}, {0, 2}, {2, 1}};
        for (int[] pair : none) {
            Check.due("none of " + pair[0] + ", " + pair[1], x.triangles(pair[0], pair[1], -1), 0);
            none("no first of " + pair[0] + ", " + pair[1], x.triangles(pair[0], pair[1], 0));
        }
        int[][] no = {{-1, 0}, {1000, 0}, {3, -1}, {3, 1000}, {LEAST, 0}, {MOST, 0}, {3, LEAST}, {3, MOST}, {5, -1}, {-1, 3},
            {LEAST, LEAST}, {MOST, MOST}, {1073741827, -1073741824}, {3, 1073741824}, {3, -2147483648}};
        for (int[] pair : no) {
            none("not as told " + pair[0] + ", " + pair[1], x.triangles(pair[0], pair[1], -1));
            none("not as told " + pair[0] + ", " + pair[1], x.triangles(pair[0], pair[1], 0));
        }
        for (int k : NO_K) {
            none("triangles(3, 0, " + k + ")", x.triangles(3, 0, k));
        }
        none("no board", new PegBands().triangles(3, 0, -1));
        none("no board", new PegBands().triangles(3, 0, 0));
        none("no board", new PegBands().triangles(0, 0, -1));
    }

    private static void smallest() {
        Check.part("Promise 32: the least AREA of such; NONE likewise");
        PegBands x = Check.on("board 10 10;");
        Check.due("the least", x.smallest(3, 0), 1);
        Check.due("the greatest", x.smallest(27, 28), 81);
        Check.due("4, 0", x.smallest(4, 0), 2);
        Check.due("3, 1", x.smallest(3, 1), 3);
        int[][] no = {{0, 0}, {2, 0}, {28, 28}, {27, 29}, {999, 999}, {-1, 0}, {1000, 0}, {3, -1}, {3, 1000}, {5, -1}, {LEAST, 0},
            {MOST, 0}, {3, LEAST}, {3, MOST}, {0, 2}, {1, 1}, {0, 999}, {999, 0}};
        for (int[] pair : no) {
            none("smallest(" + pair[0] + ", " + pair[1] + ")", x.smallest(pair[0], pair[1]));
        }
        none("no board", new PegBands().smallest(3, 0));
        none("two pegs", Check.on("board 2 2;out 0 0;out 1 1;").smallest(3, 0));
        Check.due("three pegs", Check.on("board 2 2;out 1 1;").smallest(3, 0), 1);
    }

    private static void cuts() {
        Check.part("Promise 33: how many (k NONE), or the k-th, by places along it");
        PegBands x = Check.on("board 10 10;bell;band a 0 0 9 0 9 9 0 9;band b 0 0 1 0 0 1;");
        Check.due("how many", x.cuts(0, -1), 18);
        int[] first = {0, 1, 2, 3, 4, 5, 6, 7, 8, 9, 19, 29, 39, 49, 59, 69, 79, 89};
        for (int k = 0; k < 18; k++) {
            Check.due("cut " + k, x.cuts(0, k), 100 * first[k] + 99 - first[k]);
        }
        none("behind the last", x.cuts(0, 18));
        Check.due("none", x.cuts(1, -1), 0);
        none("no first", x.cuts(1, 0));
        // From one place two cuts: the one whose other end comes first is told first.
        PegBands y = Check.on("board 10 10;band a 0 0 4 0 4 4 0 4;");
        Check.due("the first ends first", y.cuts(0, 0), 44);
    }

    private static void cutsNone() {
        Check.part("Promise 33: NONE: none such, no such BAND");
        PegBands x = Check.on("board 5 5;band a 0 0 2 0 2 2 0 2;");
        for (int k : NO_K) {
            none("cuts(0, " + k + ")", x.cuts(0, k));
        }
        none("cuts(0, 4)", x.cuts(0, 4));
        int[] no = {-1, 1, 7, 8, LEAST, MOST};
        for (int b : no) {
            none("cuts(" + b + ", -1)", x.cuts(b, -1));
            none("cuts(" + b + ", 0)", x.cuts(b, 0));
        }
    }

    private static void moved() {
        Check.part("Promise 34: MOVED from BAND a to BAND b: how many moves");
        PegBands x = Check.on("board 6 6;bell;band a 0 0 1 0 0 1;band b 5 5 4 5 5 4;band c 0 0 1 0 1 1;band d 0 1 1 0 0 0;");
        Check.due("to itself", x.moved(0, 0), 0);
        Check.due("to one on the same pegs", x.moved(0, 3), 0);
        Check.due("one", x.moved(0, 2), 1);
        Check.due("one back", x.moved(2, 0), 1);
        Check.due("as many back", x.moved(0, 1), x.moved(1, 0));
        // Each corner of a is 8 to 10 places from those of b: 26 in all at the least.
        Check.due("across the board", x.moved(0, 1), 26);
        Check.due("bands are not moved", Check.bands(x), "0 1 10;55 54 45;0 1 11;10 1 0;");
        none("nor can it be undone", x.undo());
    }

    private static void movedNone() {
        Check.part("Promise 34: NONE: not by any, not of three corners, a BOARD too large, no such ones");
        none("not by any", Check.on("board 5 2;out 2 0;out 2 1;band a 0 0 1 0 0 1;band b 3 0 4 0 3 1;").moved(0, 1));
        PegBands x = Check.on("board 6 6;bell;band a 0 0 1 0 0 1;band b 0 0 1 0 1 1 0 1;");
        none("not of three corners", x.moved(0, 1));
        none("not of three corners", x.moved(1, 0));
        none("not of three corners", x.moved(1, 1));
        Check.due("of three corners", x.moved(0, 0), 0);
        int[] no = {-1, 2, 7, 8, LEAST, MOST};
        for (int b : no) {
            none("moved(0, " + b + ")", x.moved(0, b));
            none("moved(" + b + ", 0)", x.moved(b, 0));
            none("moved(" + b + ", " + b + ")", x.moved(b, b));
        }
        none("a board too large", Check.on("board 10 4;band a 0 0 1 0 0 1;").moved(0, 0));
        Check.due("not too large", Check.on("board 9 4;band a 0 0 1 0 0 1;").moved(0, 0), 0);
    }

    private static void lineLaid() {
        Check.part("Promise 35: a LINE is laid: true");
        PegBands x = Check.on("board 3 3;");
        Check.due("told either way", x.line(1, 0), true);
        Check.due("one lies", x.count(6), 1);
        Check.due("the second", x.line(2, 12), true);
        Check.due("the third", x.line(10, 20), true);
        Check.due("the fourth", x.line(21, 22), true);
        Check.due("four lie", x.count(6), 4);
        Check.due("no fifth", x.lines(-1), 0);
    }

    private static void lineFalse() {
        Check.part("Promise 35: false: it can't be, no such PEGS, a BOARD of more than 9 PEGS");
        // On the rich board 2 2 is out, and a line lies from 1 1 to 2 1.
        int[][] no = {{11, 12}, {11, 1}, {12, 2}, {0, 2}, {0, 20}, {0, 0}, {2, 22}, {22, 21}, {0, 3}, {3, 0}, {30, 20}, {-1, 0}, {0, -1},
            {0, 99}, {0, 100}, {LEAST, 0}, {0, LEAST}, {MOST, 0}, {0, MOST}, {LEAST, LEAST}, {MOST, MOST}, {LEAST, MOST}, {100, 101}};
        for (int[] pair : no) {
            refused("line(" + pair[0] + ", " + pair[1] + ")", x -> Check.due("line", x.line(pair[0], pair[1]), false));
        }
        Check.due("10 pegs", Check.on("board 5 2;").line(0, 1), false);
        Check.due("9 pegs", Check.on("board 5 2;out 4 1;").line(0, 1), true);
        Check.due("no board", new PegBands().line(0, 1), false);
    }

    private static void lines() {
        Check.part("Promise 36: how many (k NONE), or the k-th: the lesser PEG number and the greater (rising)");
        PegBands x = Check.on("board 2 2;");
        int[] due = {1, 10, 11, 110, 111, 1011};
        Check.due("how many", x.lines(-1), 6);
        for (int k = 0; k < due.length; k++) {
            Check.due("lines(" + k + ")", x.lines(k), due[k]);
        }
        none("behind the last", x.lines(6));
        Check.due("lay", x.line(11, 10), true);
        Check.due("how many", x.lines(-1), 1);
        Check.due("the first", x.lines(0), 1);
        none("behind the last", x.lines(1));
        Check.due("lay", x.line(0, 1), true);
        Check.due("none", x.lines(-1), 0);
        none("no first", x.lines(0));
        PegBands y = Check.on("board 3 3;");
        Check.due("the last", y.lines(27), 2122);
        none("behind the last", y.lines(28));
        PegBands out = Check.on("board 10 2;out 1 0;out 2 0;out 3 0;out 4 0;out 5 0;out 6 0;out 7 0;out 8 0;out 1 1;out 2 1;out 3 1;");
        Check.due("the first of pegs far apart", out.lines(0), 10);
        Check.due("from one end to the other", out.line(0, 19), true);
    }

    private static void linesNone() {
        Check.part("Promise 36: NONE: none such, a BOARD of more than 9 PEGS, no BOARD");
        PegBands x = Check.on("board 2 2;");
        for (int k : NO_K) {
            none("lines(" + k + ")", x.lines(k));
        }
        none("10 pegs", Check.on("board 5 2;").lines(-1));
        none("10 pegs", Check.on("board 5 2;").lines(0));
        Check.due("9 pegs", Check.on("board 5 2;out 2 0;").lines(0), 1);
        none("no board", new PegBands().lines(-1));
        none("no board", new PegBands().lines(0));
        Check.due("no pegs", Check.on("board 2 2;out 0 0;out 1 0;out 0 1;out 1 1;").lines(-1), 0);
    }

    private static void wins() {
        Check.part("Promise 37: the first LINE by which he wins whatever the other one does; NONE: by none");
        PegBands x = Check.on("board 2 2;");
        // 1 and 10 leave the other one a line; 11 crosses the middle and leaves none.
        Check.due("the first", x.wins(), 11);
        Check.due("wins lays nothing", x.count(6), 0);
        Check.due("lay another", x.line(0, 1), true);
        Check.due("the other one wins", x.wins(), 1011);
        Check.due("lay it", x.line(10, 11), true);
        none("by none", x.wins());
        // Two pegs: one line, and the first one wins; one peg: none.
        Check.due("two pegs", Check.on("board 2 2;out 0 0;out 1 1;").wins(), 110);
        none("one peg", Check.on("board 2 2;out 0 0;out 1 1;out 1 0;").wins());
        none("no peg", Check.on("board 2 2;out 0 0;out 1 1;out 1 0;out 0 1;").wins());
        // Four pegs in a row: 0 1 leaves 2 3, so the one in the middle wins.
        PegBands row = Check.on("board 4 2;out 0 1;out 1 1;out 2 1;out 3 1;");
        Check.due("four in a row", row.wins(), 102);
        // Two pairs far apart: each lays one, whoever begins has lost.
        PegBands pairs = Check.on("board 5 2;out 2 0;out 2 1;out 0 1;out 1 1;out 3 1;out 4 1;");
        none("two pairs", pairs.wins());
        Check.due("lay one", pairs.line(0, 1), true);
        Check.due("the other pair wins", pairs.wins(), 304);
        Check.due("nine pegs", Check.on("board 3 3;").wins() >= -1, true);
    }

    private static void winsNone() {
        Check.part("Promise 37: -2: a BOARD of more than 9 PEGS, no BOARD");
        Check.due("10 pegs", Check.on("board 5 2;").wins(), -2);
        Check.due("100 pegs", Check.on("board 10 10;").wins(), -2);
        Check.due("no board", new PegBands().wins(), -2);
        Check.due("9 pegs", Check.on("board 5 2;out 4 1;").wins() > -2, true);
    }

    private static void again() {
        Check.part("Promise 38: the GAME begins anew: how many LINES lay");
        PegBands x = Check.on("board 3 3;");
        Check.due("none", x.again(), 0);
        Check.due("lay", x.line(0, 1), true);
        Check.due("one", x.again(), 1);
        Check.due("none lie", x.count(6), 0);
        Check.due("all can be laid", x.lines(-1), 28);
        Check.due("none", x.again(), 0);
        Check.due("four", x.line(0, 1) && x.line(2, 12) && x.line(10, 20) && x.line(21, 22), true);
        Check.due("four", x.again(), 4);
        Check.due("the same one again", x.line(0, 1), true);
        Check.due("no board", new PegBands().again(), 0);
        Check.due("a board of many pegs", Check.on("board 9 9;").again(), 0);
    }

    private static void sentenceOnes() {
        Check.part("Promise 39: the tape is the SENTENCE now: how many ONES (each not, bracket and other one)");
        PegBands x = Check.on("board 5 5;band a 0 0 1 0 0 1;");
        Check.due("one", Check.sentence(x, "bent"), 1);
        Check.due("not", Check.sentence(x, "not bent"), 2);
        Check.due("bracket", Check.sentence(x, "(bent)"), 2);
        Check.due("all kinds", Check.sentence(x, "not(in a or alike a)and area<1 or on=1 and within>1 or corners=3 and right=1"), 9);
        Check.due("the most", Check.sentence(x, "bent" + " or bent".repeat(19)), 20);
    }

    private static void sentenceStays() {
        Check.part("Promise 39: -1 less the place of a FAULT: it stays");
        String[] texts = {"", "bent or", "in nobody", "not ".repeat(8) + "bent", "bent" + " or bent".repeat(20), "area=1000"};
        int[] places = {0, 7, 3, 32, 160, 5};
        for (int i = 0; i < texts.length; i++) {
            PegBands x = new PegBands();
            PegBands y = new PegBands();
            Check.makeRich(x);
            Check.makeRich(y);
            Check.due("sentence '" + texts[i] + "'", Check.sentence(x, texts[i]), -1 - places[i]);
            Check.due("all stays", Check.rest(x), Check.rest(y));
        }
        PegBands none = Check.on("board 5 5;band a 0 0 1 0 0 1;");
        Check.due("a fault", Check.sentence(none, "bent or"), -8);
        none("there is none still", none.said(-1));
    }

    private static void said() {
        Check.part("Promise 40: how many (k NONE), or the k-th one's number");
        PegBands x = eight("");
        Check.due("sentence", Check.sentence(x, "corners=3"), 1);
        Check.due("how many", x.said(-1), 8);
        for (int k = 0; k < 8; k++) {
            Check.due("said(" + k + ")", x.said(k), k);
        }
        none("behind the last", x.said(8));
        Check.due("snap", x.snap(0), 3);
        Check.due("as bands are now", x.said(-1), 7);
        Check.due("the last", x.said(6), 6);
        none("behind the last", x.said(7));
        Check.due("sentence", Check.sentence(x, "bent"), 1);
        Check.due("of none", x.said(-1), 0);
        none("no first", x.said(0));
        PegBands y = Check.on("board 9 9;band a 0 0 1 0 0 1;band b 3 0 6 0 3 3;band c 0 3 1 3 0 4;band d 3 5 6 5 3 8;");
        Check.due("sentence", Check.sentence(y, "area>1"), 1);
        Check.due("the first", y.said(0), 1);
        Check.due("the second", y.said(1), 3);
        none("no third", y.said(2));
    }

    private static void saidNone() {
        Check.part("Promise 40: NONE: there is no SENTENCE, none such");
        none("a new object", new PegBands().said(-1));
        PegBands x = Check.on("board 5 5;band a 0 0 1 0 0 1;");
        none("no sentence", x.said(-1));
        none("no sentence", x.said(0));
        Check.due("sentence", Check.sentence(x, "not bent"), 2);
        for (int k : NO_K) {
            none("said(" + k + ")", x.said(k));
        }
        Check.due("said(0)", x.said(0), 0);
    }

    private static void image() {
        Check.part("Promise 41: BOARD, BANDS, CALLS, LINES and SENTENCE are kept in place k (0, 1): true");
        for (int k = 0; k < 2; k++) {
            PegBands x = new PegBands();
            Check.makeRich(x);
            Check.due("snap", x.snap(0), 4);
            Check.due("undo", x.undo(), 2);
            String told = Check.told(x);
            Check.due("image", x.image(k), true);
            Check.due("an image changes nothing", Check.told(x), told);
            Check.due("what can be undone stays", x.undo(), 1);
            Check.due("another board", Check.board(x, "board 4 2;bell;band b 0 0 1 0 0 1;"), 3);
            Check.due("line", x.line(2, 3), true);
            Check.due("restore", x.restore(k), true);
            Check.due("as kept", Check.told(x), told);
            Check.due("names as kept", Check.sentence(x, "in a"), 1);
            Check.due("names as kept", Check.sentence(x, "in b"), -4);
            Check.due("lay", x.lay(), 0);
            Check.due("the calls told it", Check.corners(x, 1), "11 12 21");
        }
        // Both are kept apart, and kept anew.
        PegBands x = Check.on("board 2 3;");
        Check.due("image", x.image(0), true);
        Check.due("board", Check.board(x, "board 4 5;bell;"), 2);
        Check.due("image", x.image(1), true);
        Check.due("board", Check.board(x, "board 6 7;out 0 0;"), 2);
        Check.due("restore", x.restore(0), true);
        Check.due("W", x.count(0), 2);
        Check.due("restore", x.restore(1), true);
        Check.due("W", x.count(0), 4);
        Check.due("bell", x.count(4), 1);
        Check.due("kept anew", x.image(0), true);
        Check.due("board", Check.board(x, "board 6 7;"), 1);
        Check.due("restore", x.restore(0), true);
        Check.due("W", x.count(0), 4);
        // A change behind an image is no change of it.
        Check.due("calls", Check.calls(x, "at 0 0;by 1 0;by 0 1;by -1 -1;"), 3);
        Check.due("lay", x.lay(), 0);
        Check.due("restore", x.restore(0), true);
        Check.due("no bands", x.count(2), 0);
        Check.due("no calls", x.count(5), 0);
        // Without a board it is kept that there is none.
        PegBands y = new PegBands();
        Check.due("image", y.image(1), true);
        Check.due("board", Check.board(y, "board 6 7;"), 1);
        Check.due("restore", y.restore(1), true);
        Check.due("no board", y.count(0), 0);
        none("no place", y.peg(0));
    }

    private static void imageFalse() {
        Check.part("Promise 41: false: no such one");
        int[] no = {-1, 2, 3, LEAST, MOST};
        for (int k : no) {
            refused("image(" + k + ")", x -> Check.due("image", x.image(k), false));
        }
    }

    private static void restore() {
        Check.part("Promise 42: they are as kept in place k: true");
        PegBands x = new PegBands();
        Check.makeRich(x);
        String told = Check.told(x);
        Check.due("image", x.image(0), true);
        Check.due("slide", x.slide(0, 1, 0), 0);
        Check.due("again", x.again(), 1);
        Check.due("restore", x.restore(0), true);
        Check.due("as kept", Check.told(x), told);
        Check.due("restore again", x.restore(0), true);
        Check.due("as kept", Check.told(x), told);
        // A line that lay hinders again.
        Check.due("an end of a line", x.line(11, 1), false);
    }

    private static void restoreLeaves() {
        Check.part("Promise 42: the tape, and what other calls told last, stays; nothing can be undone");
        PegBands x = new PegBands();
        Check.makeRich(x);
        Check.due("FAULT 5", Check.board(x, "board 5 5;band a 0 0 1 1 2 2;"), -29);
        Check.due("image", x.image(0), true);
        Check.due("another board", Check.board(x, "board 5 5;band a 4 4 3 4 4 3;"), 2);
        Check.due("write", x.write(0), 30);
        Check.due("form", x.form(0, 0), 6);
        Check.due("FAULT 2", Check.calls(x, "at 5 0;"), -4);
        Check.due("slide", x.slide(0, 0, -1), 0);
        Check.tell(x, "bent or");
        Check.due("restore", x.restore(0), true);
        Check.due("the fault stays", x.fault(), 2);
        Check.due("why stays", x.why(), 3);
        Check.due("the text stays", x.byteAt(3), '4');
        Check.due("the form stays", x.formAt(1), 1);
        Check.due("the tape stays", x.count(7), 7);
        none("nothing can be undone", x.undo());
        Check.due("bands", Check.bands(x), "0 1 20;");
        Check.due("the tape's bytes stay", x.sentence(), -8);
        Check.due("slide", x.slide(0, 0, 0), 0);
        Check.due("what is done from now on can be", x.undo(), 0);
        none("nothing more", x.undo());
    }

    private static void restoreFalse() {
        Check.part("Promise 42: false: no such one, or nothing is kept there");
        // The rich object keeps nothing in place 0.
        int[] no = {0, -1, 2, 3, LEAST, MOST};
        for (int k : no) {
            refused("restore(" + k + ")", x -> Check.due("restore", x.restore(k), false));
        }
        PegBands x = new PegBands();
        Check.due("nothing kept", x.restore(0), false);
        Check.due("nothing kept", x.restore(1), false);
        Check.due("image", x.image(0), true);
        Check.due("kept", x.restore(0), true);
        Check.due("nothing kept there", x.restore(1), false);
    }

    private static void count() {
        Check.part("Promise 43: 0 W, 1 H, 2 BANDS, 3 PEGS out, 4 the bell, 5 'by', 6 LINES that lie, 7 bytes of the tape");
        PegBands x = Check.on("board 4 3;out 0 0;out 1 0;out 2 0;out 3 0;bell;band a 0 1 1 1 0 2;");
        Check.due("calls", Check.calls(x, "at 0 1;by 1 0;by 0 1;by -1 0;by 0 -1;"), 4);
        Check.due("line", x.line(10, 11) && x.line(20, 21), true);
        Check.tell(x, "seven b");
        int[] due = {4, 3, 1, 4, 1, 4, 2, 7};
        for (int what = 0; what < 8; what++) {
            Check.due("count(" + what + ")", x.count(what), due[what]);
        }
        PegBands y = Check.on("board 2 10;");
        int[] least = {2, 10, 0, 0, 0, 0, 0, 0};
        for (int what = 0; what < 8; what++) {
            Check.due("count(" + what + ")", y.count(what), least[what]);
        }
    }

    private static void countNone() {
        Check.part("Promise 43: NONE for another what");
        int[] no = {-1, 8, 9, LEAST, MOST};
        for (int what : no) {
            none("count(" + what + ")", new PegBands().count(what));
            none("count(" + what + ")", Check.on("board 3 3;").count(what));
        }
    }
}
