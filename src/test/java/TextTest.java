/** Promises 1 to 7: the tape, boards and their faults. */
public final class TextTest {
    private static final String HEAD = "board 5 5;";
    private static final String ONE = "band a 0 0 1 0 0 1;";

    public static void main(String[] args) {
        newObject();
        tape();
        goodBoards();
        tokens();
        numbers();
        toldTwice();
        tooMany();
        wrongBands();
        tooLong();
        faultStays();
        pegs();
        Check.finish();
    }

    /** A faulty text: its place and its kind, and that the board stays. */
    private static void faulty(String text, int place, int kind) {
        PegBands x = Check.on("board 7 6;out 6 5;");
        Check.due("board '" + text + "'", Check.board(x, text), -1 - place);
        Check.due("fault of '" + text + "'", x.fault(), kind);
        Check.due("w stays behind '" + text + "'", x.count(0), 7);
        Check.due("out stays behind '" + text + "'", x.count(3), 1);
        Check.due("the tape is empty behind '" + text + "'", x.count(7), 0);
    }

    private static void newObject() {
        PegBands x = new PegBands();
        for (int what = 0; what < 8; what++) {
            Check.due("new: count(" + what + ")", x.count(what), 0);
        }
        Check.due("new: fault", x.fault(), 0);
        Check.due("new: why", x.why(), 0);
        Check.due("new: peg", x.peg(0), -1);
        Check.due("new: free", x.free(), 0);
        Check.due("new: undo", x.undo(), -1);
        Check.due("new: over", x.over(0, 0), -1);
        Check.due("new: restore(0)", x.restore(0), false);
        Check.due("new: restore(1)", x.restore(1), false);
        Check.due("new: end(0)", x.end(0), true);
        Check.due("new: end(1)", x.end(1), false);
        Check.due("new: band", Check.throwsNoSuch(x, 0, 0), true);
    }

    private static void tape() {
        PegBands x = new PegBands();
        int w = 0x626f6172;
        Check.due("feed", x.feed(w, 0x64203220, 0x333b2020, 0x20202020, 0x0a0a0a0a), 20);
        Check.due("bytes come the highest first", x.board(), 1);
        Check.due("w", x.count(0), 2);
        Check.due("h", x.count(1), 3);
        Check.due("the tape is empty", x.count(7), 0);
        for (int i = 1; i <= 32; i++) {
            Check.due("feed " + i, x.feed(-1, -1, -1, -1, -1), 20 * i);
        }
        Check.due("640 bytes", x.count(7), 640);
        Check.due("no more than 640", x.feed(0, 0, 0, 0, 0), -1);
        Check.due("none come", x.count(7), 640);
        Check.due("end(641)", x.end(641), false);
        Check.due("end(-1)", x.end(-1), false);
        Check.due("end changes nothing then", x.count(7), 640);
        Check.due("end(640)", x.end(640), true);
        Check.due("end(621)", x.end(621), true);
        Check.due("641 would be too many", x.feed(0, 0, 0, 0, 0), -1);
        Check.due("end(620)", x.end(620), true);
        Check.due("640 are not", x.feed(0, 0, 0, 0, 0), 640);
        Check.due("high bytes are no token", x.board(), -1);
        Check.due("high bytes are no token, fault", x.fault(), 1);
        Check.due("end behind an empty tape", x.end(1), false);
        x.feed(w, 0x64203220, 0x333b7878, 0, 0);
        Check.due("end(9)", x.end(9), true);
        Check.due("end(8)", x.end(8), true);
        x.feed(0x20383b20, 0x20202020, 0x20202020, 0x20202020, 0x20202020);
        Check.due("bytes come behind those kept", x.count(7), 28);
        Check.due("text from two feeds", x.board(), 1);
        Check.due("h from two feeds", x.count(1), 8);
    }

    private static void goodBoards() {
        PegBands x = new PegBands();
        Check.due("least board", Check.board(x, "board 2 2;"), 1);
        Check.due("largest board", Check.board(x, "board 10 10;"), 1);
        Check.due("peg 99", x.peg(99), 1);
        Check.due("without blanks", Check.board(x, "board 5 5;bell;out 4 4;out 3 4;band a 0 0 1 0 0 1;"), 5);
        Check.due("bell", x.count(4), 1);
        Check.due("out", x.count(3), 2);
        Check.due("bands", x.count(2), 1);
        Check.due("blanks and rows", Check.board(x, "\n board\n5\n\n005 ;band  abcdefg 0 0 01 000 0 1 ;\n"), 2);
        Check.due("no bell", x.count(4), 0);
        Check.due("none out", x.count(3), 0);
        Check.due("h as told", x.count(1), 5);
        Check.due("8 bands", Check.board(x, "board 10 10;bell;" + bands(8)), 10);
        Check.due("8 bands, count", x.count(2), 8);
        Check.due("12 out", Check.board(x, "board 10 10;" + outs(12)), 13);
        Check.due("12 out, count", x.count(3), 12);
        Check.due("8 corners", Check.board(x, HEAD + "band a 0 0 2 0 2 1 4 1 4 4 3 4 3 2 0 2;"), 2);
        Check.due("8 corners, count", x.band(0, 0), 8);
        Check.due("out behind the bell", Check.board(x, "board 5 5;bell;out 1 1;"), 3);
    }

    private static String bands(int n) {
        StringBuilder s = new StringBuilder();
        for (int i = 0; i < n; i++) {
            s.append("band ").append((char) ('a' + i)).append(" 0 0 1 0 0 1;");
        }
        return s.toString();
    }

    private static String outs(int n) {
        StringBuilder s = new StringBuilder();
        for (int i = 0; i < n; i++) {
            s.append("out ").append(i % 10).append(' ').append(i / 10).append(';');
        }
        return s.toString();
    }

    private static void tokens() {
        faulty("", 0, 1);
        faulty("   ", 3, 1);
        faulty("boards 5 5;", 0, 1);
        faulty(" bell;", 1, 1);
        faulty("board", 5, 1);
        faulty("board 5", 7, 1);
        faulty("board 5 5", 9, 1);
        faulty("board 5 5 ", 10, 1);
        faulty("board 5 5 5;", 10, 1);
        faulty("board -5 5;", 6, 1);
        faulty("board 5,5;", 7, 1);
        faulty("board 5 5.", 9, 1);
        faulty("Board 5 5;", 0, 1);
        faulty("board 5\t5;", 7, 1);
        faulty("board5 5;", 0, 1);
        faulty("board 5x 5;", 6, 1);
        faulty("board 0005 5;", 6, 1);
        faulty("board 5 5;;", 10, 1);
        faulty(HEAD + "5;", 10, 1);
        faulty(HEAD + "board 5 5;", 10, 1);
        faulty(HEAD + "bell", 14, 1);
        faulty(HEAD + "bell bell;", 15, 1);
        faulty(HEAD + "out 1;", 15, 1);
        faulty(HEAD + "out 1 1 1;", 18, 1);
        faulty(HEAD + "out;", 13, 1);
        faulty(HEAD + "band 0 0 1 0 0 1;", 15, 1);
        faulty(HEAD + "band abcdefgh 0 0 1 0 0 1;", 15, 1);
        faulty(HEAD + "band a1 0 0 1 0 0 1;", 15, 1);
        faulty(HEAD + "band a 0 0 1 0;", 24, 1);
        faulty(HEAD + "band a 0 0 1 0 0;", 26, 1);
        faulty(HEAD + "band a 0 0 1 0 0 1 2;", 30, 1);
        faulty(HEAD + "band a 0 0 1 0 0 1 b;", 29, 1);
        faulty(HEAD + "band a 0 0 1 0 0 1", 28, 1);
        faulty(HEAD + "band a 0 0 1 0 0 1 -1 2;", 29, 1);
        faulty(HEAD + "band ;", 15, 1);
        String told = "board bell out band at by or and not in alike bent area on within corners right";
        for (String word : told.split(" ")) {
            faulty(HEAD + "band " + word + " 0 0 1 0 0 1;", 15, 1);
        }
    }

    private static void numbers() {
        faulty("board 1 5;", 6, 2);
        faulty("board 11 5;", 6, 2);
        faulty("board 0 5;", 6, 2);
        faulty("board 5 1;", 8, 2);
        faulty("board 5 999;", 8, 2);
        faulty("board 1 x;", 6, 2);
        faulty(HEAD + "out 5 1;", 14, 2);
        faulty(HEAD + "out 1 5;", 16, 2);
        faulty("board 9 3;out 5 3;", 16, 2);
        faulty("board 3 9;out 3 1;", 14, 2);
        faulty(HEAD + "band a 0 0 1 0 5 1;", 25, 2);
        faulty(HEAD + "band a 0 0 1 0 0 5;", 27, 2);
        faulty(HEAD + "band a 0 0 1 0 0 1 5 1;", 29, 2);
    }

    private static void toldTwice() {
        faulty(HEAD + ONE + "band a 3 3 4 3 3 4;", 34, 3);
        faulty(HEAD + ONE + "band a 9 9 9 9", 34, 3);
        faulty(HEAD + "out 1 2;out 1 2;", 24, 3);
        faulty(HEAD + "out 1 2;out 2 1;out 01 002;", 33, 3);
        faulty(HEAD + "bell;bell;", 15, 3);
        faulty(HEAD + "bell;" + ONE + "bell;", 34, 3);
        faulty(HEAD + ONE + "out 4 4;", 29, 3);
        faulty(HEAD + ONE + "out 9 9;", 29, 3);
        faulty("board 10 10;" + outs(12) + "band a 4 4 5 4 4 5;out 9 9;", 12 + 12 * 8 + 19, 3);
    }

    private static void tooMany() {
        faulty("board 10 10;bell;" + bands(9), 17 + 8 * 19, 4);
        faulty("board 10 10;bell;" + bands(8) + "band 5;", 17 + 8 * 19, 4);
        faulty("board 10 10;bell;" + bands(8) + "bands", 17 + 8 * 19, 1);
        faulty("board 10 10;" + outs(13), 12 + 12 * 8, 4);
        String eight = HEAD + "band a 0 0 2 0 2 1 4 1 4 4 3 4 3 2 0 2";
        faulty(eight + " 0 1;", 49, 4);
        faulty(eight + " 4;", 49, 4);
        faulty(eight + " 5 1;", 49, 2);
        faulty(eight + " x;", 49, 1);
        faulty(eight, 48, 1);
    }

    private static void wrong(String text, int why) {
        PegBands x = new PegBands();
        Check.due("board '" + text + "'", Check.board(x, text), -text.length());
        Check.due("fault of '" + text + "'", x.fault(), 5);
        Check.due("why of '" + text + "'", x.why(), why);
        Check.due("no board then", x.count(0), 0);
    }

    private static void wrongBands() {
        wrong(HEAD + "out 0 1;band a 0 0 1 0 0 1;", 1);
        wrong(HEAD + "out 0 1;band a 0 0 0 0 0 1;", 1);
        wrong(HEAD + "band a 0 0 1 0 0 0;", 2);
        wrong(HEAD + "band a 0 0 1 0 2 0 1 0;", 2);
        wrong(HEAD + "band a 0 0 1 1 2 2;", 3);
        wrong(HEAD + "band a 0 0 2 0 4 0 0 4;", 3);
        wrong(HEAD + "band a 0 0 4 0 2 0 2 2;", 3);
        wrong(HEAD + "band a 1 0 4 0 0 4 0 0;", 3);
        wrong(HEAD + "band a 2 0 4 0 0 4 0 0;", 3);
        wrong(HEAD + "band a 0 0 2 2 0 2 2 0;", 4);
        wrong(HEAD + "band a 0 0 4 0 4 2 2 0 0 2;", 4);
        wrong(HEAD + "band a 0 0 4 0 4 4 3 4 3 0 2 4;", 4);
        wrong(HEAD + "band a 0 0 4 0 4 4 3 0 2 0 0 4;", 4);
        wrong(HEAD + ONE + "band b 0 0 2 0 1 2;", 5);
        wrong(HEAD + ONE + "band b 1 0 2 0 1 2;", 5);
        wrong(HEAD + "band a 0 0 4 0 0 4;band b 2 2 4 2 4 4;", 5);
        wrong(HEAD + ONE + "band b 4 4 3 4 4 3;band c 0 0 3 0 0 3;", 5);
        // One point alone in common: a corner on the first side of the new one, of the old one.
        wrong(HEAD + "band a 2 2 3 4 1 4;band b 0 2 4 2 2 0;", 5);
        wrong(HEAD + "band a 0 2 4 2 2 4;band b 2 2 1 0 3 0;", 5);
        Check.on(HEAD + "band a 0 0 4 0 0 4;band b 1 1 2 1 1 2;");
        Check.on(HEAD + "bell;" + ONE + "band b 0 0 1 0 0 1;");
        Check.on(HEAD + ONE + "bell;band b 0 0 1 0 0 1;");
        wrong(HEAD + ONE + "band b 0 0 1 0 0 1;", 5);
        PegBands x = new PegBands();
        Check.due("bell behind", Check.board(x, HEAD + ONE + "band b 0 0 1 0 0 1;bell;"), -48);
        Check.due("bell behind, why", x.why(), 5);
        Check.due("other fault", Check.board(x, "board"), -6);
        Check.due("why of the latest fault 5", x.why(), 5);
        Check.due("fine", Check.board(x, "board 5 5;"), 1);
        Check.due("fault is 0", x.fault(), 0);
        Check.due("why is still told", x.why(), 5);
        Check.due("next", Check.board(x, HEAD + "band a 0 0 1 1 2 2;"), -29);
        Check.due("why anew", x.why(), 3);
    }

    private static void tooLong() {
        PegBands x = new PegBands();
        Check.due("600 bytes", Check.board(x, HEAD + Check.blanks(590)), 1);
        faulty(HEAD + Check.blanks(591), 600, 1);
        faulty(HEAD + Check.blanks(585) + "bell;" + "bell;", 600, 1);
        faulty(HEAD + Check.blanks(586) + "bell;" + "bell;", 600, 1);
        faulty(HEAD + Check.blanks(588) + "bell", 600, 1);
        faulty(HEAD + Check.blanks(589) + "bandits;", 599, 1);
        faulty(HEAD + Check.blanks(589) + "bell;", 600, 1);
        faulty(HEAD + Check.blanks(590) + "bandits;", 600, 1);
        faulty(HEAD + Check.blanks(587) + "out 77 1;", 600, 1);
        faulty(HEAD + Check.blanks(585) + "out 77 1;", 599, 2);
        faulty(HEAD + Check.blanks(585) + "out 1234;", 599, 1);
        faulty(HEAD + Check.blanks(585) + "out 1", 600, 1);
        faulty(HEAD + Check.blanks(572) + "band a 0 0 1 1 2 2;", 600, 1);
        faulty(HEAD + Check.blanks(571) + "band a 0 0 1 1 2 2; ", 599, 5);
        faulty("bord" + Check.blanks(630), 0, 1);
        faulty(Check.blanks(640), 600, 1);
    }

    private static void faultStays() {
        PegBands x = Check.on(HEAD + ONE);
        Check.due("calls", Check.calls(x, "at 0 0;by 1 0;by 0 1;by -1 -1;"), 3);
        Check.due("sentence", Check.sentence(x, "area=1"), 1);
        Check.due("faulty", Check.board(x, "board 3 3;band a 0 0 1 0 9 1;"), -26);
        Check.due("fault", x.fault(), 2);
        Check.due("band stays", x.corner(0, 2), 10);
        Check.due("calls stay", x.count(5), 3);
        Check.due("sentence stays", x.said(-1), 1);
        Check.due("a move can be undone still", x.move(0, 2, 20), 0);
        Check.due("faulty again", Check.board(x, "b"), -1);
        Check.due("undo behind a fault", x.undo(), 0);
        Check.due("a new board has no calls", Check.board(x, HEAD), 1);
        Check.due("no calls", x.closes(), -1);
        Check.due("no calls, count", x.count(5), 0);
        Check.due("no sentence", x.said(-1), -1);
        Check.due("no bands", x.count(2), 0);
        Check.due("fault of calls", Check.calls(x, "at 5 0;"), -4);
        Check.due("fault kind of calls", x.fault(), 2);
        Check.due("fault of a sentence", Check.sentence(x, "in a"), -4);
        Check.due("fault kind of a sentence", x.fault(), 3);
        Check.due("fine sentence", Check.sentence(x, "bent"), 1);
        Check.due("no fault", x.fault(), 0);
    }

    private static void pegs() {
        PegBands x = Check.on("board 6 3;out 5 2;out 0 0;");
        Check.due("peg(0)", x.peg(0), 0);
        Check.due("peg(1)", x.peg(1), 1);
        Check.due("peg(5)", x.peg(5), 1);
        Check.due("peg(6)", x.peg(6), -1);
        Check.due("peg(25)", x.peg(25), 0);
        Check.due("peg(24)", x.peg(24), 1);
        Check.due("peg(30)", x.peg(30), -1);
        Check.due("peg(-1)", x.peg(-1), -1);
        Check.due("peg(-10)", x.peg(-10), -1);
        Check.due("peg(100)", x.peg(100), -1);
        Check.due("peg(least)", x.peg(Integer.MIN_VALUE), -1);
        Check.due("peg(most)", x.peg(Integer.MAX_VALUE), -1);
        PegBands y = Check.on("board 10 10;out 9 9;out 3 6;out 4 6;");
        Check.due("peg(99)", y.peg(99), 0);
        Check.due("peg(63)", y.peg(63), 0);
        Check.due("peg(64)", y.peg(64), 0);
        Check.due("peg(65)", y.peg(65), 1);
        Check.due("peg(98)", y.peg(98), 1);
    }
}
