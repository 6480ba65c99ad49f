/** Promises 25 to 30: calls told by telephone. */
public final class CallsTest {
    private static final int LEAST = Integer.MIN_VALUE;
    private static final int MOST = Integer.MAX_VALUE;
    private static final String GOOD = "at 0 0;by 2 0;by 0 2;by -2 -2;";

    public static void main(String[] args) {
        good();
        faults();
        tooLong();
        withoutBoard();
        closing();
        mending();
        laying();
        writing();
        Check.finish();
    }

    private static void good() {
        PegBands x = Check.on("board 5 4;");
        Check.due("no calls", x.closes(), -1);
        Check.due("three", Check.calls(x, GOOD), 3);
        Check.due("count", x.count(5), 3);
        Check.due("blanks", Check.calls(x, " at\n4 03;by-1 0;by - 1\n-09;by 1-1 ;by 000 5;"), 4);
        Check.due("count", x.count(5), 4);
        Check.due("closes not", x.closes(), 0);
        Check.due("eight", Check.calls(x, "at 0 0;" + "by 1 0;by -1 0;".repeat(4)), 8);
        Check.due("closes", x.closes(), 1);
        Check.due("tape", x.count(7), 0);
    }

    /** A faulty text: its place and its kind, and that the calls stay. */
    private static void faulty(String text, int place, int kind) {
        PegBands x = Check.on("board 5 4;");
        Check.due("good", Check.calls(x, GOOD), 3);
        Check.due("calls '" + text + "'", Check.calls(x, text), -1 - place);
        Check.due("fault of '" + text + "'", x.fault(), kind);
        Check.due("calls stay behind '" + text + "'", x.count(5), 3);
        Check.due("tape behind '" + text + "'", x.count(7), 0);
        Check.due("the same ones behind '" + text + "'", x.lay(), 0);
        Check.due("corner behind '" + text + "'", x.corner(0, 2), 22);
    }

    private static void faults() {
        faulty("", 0, 1);
        faulty("by 1 0;", 0, 1);
        faulty("at -1 0;", 3, 1);
        faulty("at 0 0", 6, 1);
        faulty("at 5 0;", 3, 2);
        faulty("at 0 4;", 5, 2);
        faulty("at 4 3;", 7, 1);
        faulty("at 4 3;at", 7, 1);
        faulty("at 0 0;by 1 0;by 1 0;", 21, 1);
        faulty("at 0 0;by 1 0;by 1 0;bye", 21, 1);
        faulty("at 0 0;by 1 0;by 1 0;by 1;", 25, 1);
        faulty("at 0 0;by 1 0;by 1 0;by 1 0", 27, 1);
        faulty("at 0 0;by 1 0;by 1 0;by 1 0 0;", 28, 1);
        faulty("at 0 0;by 1 0;by 1 0;by --1 0;", 25, 1);
        faulty("at 0 0;by 1 0;by 1 0;by 1 -;", 27, 1);
        faulty("at 0 0;by 10 0;", 10, 2);
        faulty("at 0 0;by -10 0;", 11, 2);
        faulty("at 0 0;by 1 -010;", 13, 2);
        faulty("at 0 0;by 1 0x;", 12, 1);
        faulty(GOOD + ";", 30, 1);
        faulty(GOOD + "at 0 0;", 30, 1);
        faulty("at 0 0;" + "by 1 0;".repeat(9), 63, 4);
        faulty("at 0 0;" + "by 1 0;".repeat(8) + "by", 63, 4);
        faulty("at 0 0;" + "by 1 0;".repeat(8) + "5", 63, 1);
        faulty("at 0 0;" + "by 1 0;".repeat(8) + "?", 63, 1);
    }

    private static void tooLong() {
        PegBands x = Check.on("board 5 4;");
        Check.due("300 bytes", Check.calls(x, GOOD + Check.blanks(270)), 3);
        faulty(GOOD + Check.blanks(271), 300, 1);
        faulty(GOOD + Check.blanks(269) + "by 1 0;", 300, 1);
        faulty(GOOD + Check.blanks(269) + "bye 1 0;", 299, 1);
        faulty(GOOD + Check.blanks(267) + "by 1 0;", 300, 1);
        faulty(GOOD + Check.blanks(266) + "by 10 0;", 299, 2);
        faulty(GOOD + Check.blanks(270) + "bye 1 0;", 300, 1);
        faulty("at 0 0;" + "by 1 0;".repeat(8) + Check.blanks(237) + "by", 300, 1);
    }

    private static void withoutBoard() {
        PegBands x = new PegBands();
        // Without a board no number is below W.
        Check.due("without a board", Check.calls(x, GOOD), -4);
        Check.due("fault", x.fault(), 2);
        Check.due("no calls", x.closes(), -1);
        Check.due("lay", x.lay(), -1);
        Check.due("mended", x.mended(-1), -1);
    }

    private static void closing() {
        PegBands x = Check.on("board 5 5;");
        Check.due("calls", Check.calls(x, "at 0 0;by 9 9;by -9 9;by 0 -9;by 0 -9;"), 4);
        Check.due("closes", x.closes(), 1);
        Check.due("calls", Check.calls(x, "at 0 0;by 1 0;by 0 1;by -1 0;"), 3);
        Check.due("y does not", x.closes(), 0);
        Check.due("calls", Check.calls(x, "at 0 0;by 1 0;by 0 1;by 0 -1;"), 3);
        Check.due("x does not", x.closes(), 0);
    }

    private static void mended(PegBands x, int... due) {
        Check.due("mended(NONE)", x.mended(-1), due.length);
        for (int k = 0; k < due.length; k++) {
            Check.due("mended(" + k + ")", x.mended(k), due[k]);
        }
        Check.due("mended behind", x.mended(due.length), -1);
        Check.due("mended(-2)", x.mended(-2), -1);
        Check.due("mended(most)", x.mended(MOST), -1);
        Check.due("mended(least)", x.mended(LEAST), -1);
    }

    private static void mending() {
        PegBands x = Check.on("board 5 5;");
        Check.due("no calls", x.mended(-1), -1);
        Check.due("no calls", x.mended(0), -1);
        Check.due("calls", Check.calls(x, "at 0 0;by 2 0;by 0 2;by -1 -1;"), 3);
        // 0: corners 0 0, 1 -1: not on the board. 1: 0 0, 2 0, 1 1. 2: 0 0, 2 0, 2 2.
        mended(x, 1, 2);
        Check.due("calls", Check.calls(x, "at 1 1;by 2 0;by 0 2;by -1 -1;"), 3);
        // 0: corners 1 1, 2 0, 2 2. 1: 1 1, 3 1, 2 2. 2: 1 1, 3 1, 3 3.
        mended(x, 0, 1, 2);
        Check.due("another board", Check.board(x, "board 5 5;out 2 0;out 3 3;"), 3);
        Check.due("calls", Check.calls(x, "at 1 1;by 2 0;by 0 2;by -1 -1;"), 3);
        mended(x, 1);
        // None of them: the first corner's peg is out.
        Check.due("calls", Check.calls(x, "at 2 0;by 2 0;by 0 2;by -1 -1;"), 3);
        mended(x);
        Check.due("calls", Check.calls(x, "at 1 1;by 2 0;by 0 2;by -2 -2;"), 3);
        Check.due("they close", x.mended(-1), -1);
        Check.due("they close", x.mended(0), -1);
        // A mended band may meet others: only 1 to 4 count.
        PegBands y = Check.on("board 5 5;band a 0 0 4 0 4 4 0 4;");
        Check.due("calls", Check.calls(y, "at 0 0;by 4 0;by 0 4;by -4 0;by 0 -3;"), 4);
        // The sums are 0 1. 0: 0 0, 4 -1. 1: 0 0, 4 0, 4 3, 0 3. 2: 0 0, 4 0, 4 4, 0 3. 3: as it should be.
        mended(y, 1, 2, 3);
        // Knotted, straight and doubled ones are not mended.
        Check.due("calls", Check.calls(y, "at 0 0;by 1 0;by 1 0;by 0 1;"), 3);
        // The sums are 2 1. 0: 0 0, -1. 1: 0 0, 1 0, 0 -1. 2: 0 0, 1 0, 2 0 straight.
        mended(y);
        Check.due("calls", Check.calls(y, "at 0 0;by 2 2;by 0 -2;by -2 2;by 0 0;"), 4);
        // The sums are 0 2. 0: 0 0, 2 0, 2 -2. 1: 0 0, 2 2, 2 -2. 2: 0 0, 2 2, 2 0, 0 0 twice. 3: knotted.
        mended(y);
    }

    private static void laying() {
        PegBands x = Check.on("board 6 6;out 5 5;band a 0 0 2 0 2 2 0 2;");
        Check.due("no calls", x.lay(), -1);
        lays(x, "at 3 0;by 9 0;by 0 1;by -9 0;", 6);
        lays(x, "at 3 0;by 9 0;by 0 1;by -9 -1;", 1);
        lays(x, "at 5 5;by -1 0;by 0 -1;by 1 1;", 1);
        lays(x, "at 3 0;by 1 0;by -1 0;by 1 1;by -1 -1;", 2);
        lays(x, "at 3 0;by 1 0;by 1 0;by -2 0;", 3);
        lays(x, "at 3 0;by 1 1;by -1 0;by 1 -1;by -1 0;", 4);
        lays(x, "at 1 1;by 3 0;by 0 1;by -3 -1;", 5);
        lays(x, "at 1 1;by 3 0;by 0 1;by -3 0;", 6);
        Check.due("nothing to undo", x.undo(), -1);
        lays(x, "at 3 0;by 1 0;by 0 1;by -1 -1;", 0);
        Check.due("the last one", x.count(2), 2);
        Check.due("corner 0", x.corner(1, 0), 3);
        Check.due("corner 1", x.corner(1, 1), 4);
        Check.due("corner 2", x.corner(1, 2), 14);
        Check.due("no corner 3", x.corner(1, 3), -1);
        Check.due("laid again it meets itself", x.lay(), 5);
        Check.due("the calls stay", x.count(5), 3);
        Check.due("undo", x.undo(), 0);
        Check.due("the band is gone", x.count(2), 1);
        PegBands y = Check.on("board 9 9;bell;");
        Check.due("calls", Check.calls(y, "at 3 0;by 1 0;by 0 1;by -1 -1;"), 3);
        for (int i = 0; i < 8; i++) {
            Check.due("lay " + i, y.lay(), 0);
        }
        Check.due("there are 8 bands", y.lay(), 7);
        lays(y, "at 3 0;by 1 0;by 1 0;by -2 0;", 3);
        lays(y, "at 3 0;by 1 0;by 1 0;by -2 1;", 6);
        lays(y, "at 3 1;by 1 0;by 0 1;by -1 -1;", 7);
        Check.due("8 bands", y.count(2), 8);
        Check.due("undo all", y.undo(), 7);
        Check.due("7 bands", y.count(2), 7);
        Check.due("room again", y.lay(), 0);
        // Without a bell 5 is ahead of 7.
        StringBuilder s = new StringBuilder("board 9 9;");
        for (int i = 0; i < 8; i++) {
            s.append("band ").append((char) ('a' + i)).append(" " + i + " 0 " + i + " 1 " + (i + 1) + " 2;");
        }
        PegBands z = Check.on(s.toString());
        Check.due("calls", Check.calls(z, "at 0 0;by 1 0;by 0 1;by -1 -1;"), 3);
        Check.due("5 is ahead of 7", z.lay(), 5);
        Check.due("calls", Check.calls(z, "at 0 5;by 1 0;by 0 1;by -1 -1;"), 3);
        Check.due("7", z.lay(), 7);
    }

    private static void lays(PegBands x, String text, int due) {
        int bands = x.count(2);
        Check.due("calls '" + text + "'", Check.calls(x, text) > 0, true);
        Check.due("lay '" + text + "'", x.lay(), due);
        Check.due("bands then", x.count(2), due == 0 ? bands + 1 : bands);
    }

    private static void writes(String band, String due) {
        PegBands x = Check.on("board 10 10;band a " + band + ";");
        int n = x.write(0);
        Check.due("bytes for " + band, n, due.length());
        Check.due("text for " + band, Check.made(x, n), due);
        // The calls lay the same band.
        PegBands y = Check.on("board 10 10;");
        Check.due("calls are taken", Check.calls(y, due) > 0, true);
        Check.due("calls are laid", y.lay(), 0);
        Check.due("area", y.band(0, 1), x.band(0, 1));
    }

    private static void writing() {
        writes("0 0 2 0 2 2 0 2", "at 0 0;by 2 0;by 0 2;by -2 0;by 0 -2;");
        writes("2 2 0 2 0 0 2 0", "at 2 2;by -2 0;by 0 -2;by 2 0;by 0 2;");
        // As told 2 signs, round the other way 4.
        writes("0 0 3 1 6 3", "at 0 0;by 3 1;by 3 2;by -6 -3;");
        // Round the other way it is shorter, from the same corner.
        writes("6 3 3 1 0 0", "at 6 3;by -6 -3;by 3 1;by 3 2;");
        writes("9 9 0 0 9 0", "at 9 9;by -9 -9;by 9 0;by 0 9;");
        writes("0 9 9 0 9 9", "at 0 9;by 9 -9;by 0 9;by -9 0;");
        writes("0 0 0 4 4 4 4 2 2 2 2 0", "at 0 0;by 2 0;by 0 2;by 2 0;by 0 2;by -4 0;by 0 -4;");
        PegBands x = Check.on("board 9 9;band a 0 0 1 0 0 1;");
        Check.due("no text yet", x.byteAt(0), -1);
        Check.due("no such band", x.write(1), -1);
        Check.due("no such band", x.write(-1), -1);
        Check.due("no such band", x.write(MOST), -1);
        Check.due("still no text", x.byteAt(0), -1);
        Check.due("write", x.write(0), 30);
        Check.due("byte 3", x.byteAt(3), '0');
        Check.due("no such band", x.write(1), -1);
        Check.due("the text stays", x.byteAt(29), ';');
        Check.due("behind it", x.byteAt(30), -1);
        Check.due("a new board", Check.board(x, "board 2 2;"), 1);
        Check.due("the text stays", x.byteAt(29), ';');
        Check.due("byteAt(least)", x.byteAt(LEAST), -1);
        Check.due("byteAt(most)", x.byteAt(MOST), -1);
        Check.due("write makes no calls", x.count(5), 0);
    }
}
