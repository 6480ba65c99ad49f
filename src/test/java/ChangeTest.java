/** Promises 17 to 20 and 41 to 43: bands moved, slid, snapped, undone; images; counts. */
public final class ChangeTest {
    private static final int LEAST = Integer.MIN_VALUE;
    private static final int MOST = Integer.MAX_VALUE;
    private static final String THREE = "board 8 7;out 7 6;band a 0 0 2 0 2 2 0 2;band b 4 0 6 0 4 2;band d 0 4 3 4 3 6;";

    public static void main(String[] args) {
        moves();
        slides();
        snaps();
        undone();
        images();
        imageOfNothing();
        counts();
        Check.finish();
    }

    private static String pegsOf(PegBands x, int b) {
        StringBuilder s = new StringBuilder();
        for (int i = 0; x.corner(b, i) != -1; i++) {
            s.append(i == 0 ? "" : " ").append(x.corner(b, i));
        }
        return s.toString();
    }

    private static void stays(PegBands x, String what) {
        Check.due("a stays: " + what, pegsOf(x, 0), "0 2 22 20");
        Check.due("b stays: " + what, pegsOf(x, 1), "4 6 24");
        Check.due("d stays: " + what, pegsOf(x, 2), "40 43 63");
    }

    private static void moves() {
        PegBands x = Check.on(THREE);
        Check.due("to a peg out", x.move(0, 2, 67), 1);
        Check.due("to its own other corner", x.move(0, 0, 22), 2);
        Check.due("a corner that does not bend", x.move(0, 0, 11), 3);
        Check.due("the next corner does not bend", x.move(0, 1, 1), 0);
        Check.due("undone", x.undo(), 0);
        Check.due("corners in line", x.move(0, 1, 10), 3);
        Check.due("knotted", x.move(0, 0, 13), 4);
        Check.due("touches another one", x.move(0, 1, 4), 5);
        Check.due("crosses another one", x.move(2, 0, 14), 5);
        Check.due("no such place", x.move(0, 0, 8), -1);
        Check.due("no such place", x.move(0, 0, 70), -1);
        Check.due("no such place", x.move(0, 0, -1), -1);
        Check.due("no such place", x.move(0, 0, MOST), -1);
        Check.due("no such corner", x.move(0, 4, 1), -1);
        Check.due("no such corner", x.move(1, 3, 1), -1);
        Check.due("no such corner", x.move(0, -1, 1), -1);
        Check.due("no such corner", x.move(0, LEAST, 1), -1);
        Check.due("no such band", x.move(3, 0, 1), -1);
        Check.due("no such band", x.move(-1, 0, 1), -1);
        stays(x, "moves that are wrong");
        Check.due("nothing to undo", x.undo(), -1);
        Check.due("moved", x.move(0, 2, 33), 0);
        Check.due("moved corner", pegsOf(x, 0), "0 2 33 20");
        Check.due("area then", x.band(0, 1), 12);
        Check.due("to where it is", x.move(0, 2, 33), 0);
        Check.due("both can be undone", x.undo(), 1);
        PegBands y = Check.on("board 5 5;bell;band a 0 0 2 0 0 2;band b 3 3 4 3 3 4;");
        Check.due("with a bell bands may cross", y.move(1, 0, 0), 0);
        Check.due("they cross", y.cross(0, 1, 0) > 0, true);
    }

    private static void slides() {
        PegBands x = Check.on(THREE);
        Check.due("off the board", x.slide(0, -1, 0), 1);
        Check.due("off the board", x.slide(0, 0, -1), 1);
        Check.due("off the board", x.slide(0, 6, 0), 1);
        Check.due("off the board", x.slide(0, 0, 5), 1);
        Check.due("off the board", x.slide(0, MOST, MOST), 1);
        Check.due("off the board", x.slide(0, LEAST, LEAST), 1);
        Check.due("off the board", x.slide(0, 10, -1), 1);
        Check.due("on a peg out", x.slide(2, 4, 0), 1);
        Check.due("against another one", x.slide(0, 2, 0), 5);
        Check.due("against another one", x.slide(0, 0, 2), 5);
        Check.due("no such band", x.slide(3, 0, 0), -1);
        Check.due("no such band", x.slide(-1, 0, 0), -1);
        stays(x, "slides that are wrong");
        Check.due("slid", x.slide(0, 1, 1), 0);
        Check.due("slid corners", pegsOf(x, 0), "11 13 33 31");
        Check.due("slid back", x.slide(0, -1, -1), 0);
        Check.due("over its own old place", x.slide(0, 1, 0), 0);
        Check.due("not at all", x.slide(0, 0, 0), 0);
        Check.due("all four can be undone", x.undo(), 3);
        Check.due("slid corners", pegsOf(x, 0), "1 3 23 21");
    }

    private static void snaps() {
        PegBands x = Check.on("board 6 6;out 1 1;bell;band a 0 0 2 0 2 2 0 2;band b 2 1 4 1 4 3 2 3;band d 5 0 5 5 4 5;");
        // a holds 8 pegs, 2 1 and 2 2 of them are in b as well; b holds 9; d holds 7.
        Check.due("no such band", x.snap(3), -1);
        Check.due("no such band", x.snap(-1), -1);
        Check.due("no such band", x.snap(LEAST), -1);
        Check.due("nothing was done", x.undo(), -1);
        Check.due("free", x.free(), 13);
        Check.due("snap a", x.snap(0), 6);
        Check.due("bands", x.count(2), 2);
        Check.due("those behind it have one number less", pegsOf(x, 0), "12 14 34 32");
        Check.due("those behind it have one number less", pegsOf(x, 1), "5 55 54");
        Check.due("the last number is none", x.corner(2, 0), -1);
        Check.due("free", x.free(), 19);
        Check.due("snap b", x.snap(0), 9);
        Check.due("snap d", x.snap(0), 7);
        Check.due("free", x.free(), 35);
        Check.due("no more", x.snap(0), -1);
        Check.due("undo", x.undo(), 2);
        Check.due("d is back", pegsOf(x, 0), "5 55 54");
        Check.due("undo", x.undo(), 1);
        Check.due("undo", x.undo(), 0);
        Check.due("a is back", pegsOf(x, 0), "0 2 22 20");
        Check.due("snap the last one", x.snap(2), 7);
        Check.due("bands", x.count(2), 2);
        PegBands y = Check.on("board 5 5;bell;band a 0 0 4 0 4 4 0 4;band b 1 1 2 1 1 2;band d 1 1 2 1 1 2;");
        Check.due("within another one", y.snap(1), 0);
        Check.due("like another one", y.snap(0), 22);
    }

    private static void undone() {
        PegBands x = Check.on(THREE);
        for (int i = 0; i < 10; i++) {
            Check.due("slide " + i, x.slide(1, i % 2 == 0 ? 1 : -1, 0), 0);
        }
        Check.due("eight are kept", x.undo(), 7);
        for (int i = 6; i >= 0; i--) {
            Check.due("undo, more: " + i, x.undo(), i);
        }
        Check.due("none is", x.undo(), -1);
        Check.due("the oldest two stay done", pegsOf(x, 1), "4 6 24");
        PegBands y = Check.on("board 10 10;band a 0 0 1 0 0 9;");
        for (int i = 1; i <= 9; i++) {
            Check.due("move " + i, y.move(0, 2, 90 + i), 0);
        }
        for (int i = 8; i >= 1; i--) {
            Check.due("undo of many", y.undo(), i - 1);
            Check.due("as it was ahead of it", y.corner(0, 2), 90 + i);
        }
        Check.due("no more", y.undo(), -1);
        Check.due("move anew", y.move(0, 2, 90), 0);
        Check.due("undo it", y.undo(), 0);
        Check.due("as it was", y.corner(0, 2), 91);
        Check.due("calls", Check.calls(x, "at 5 4;by 2 0;by -1 2;by -1 -2;"), 3);
        Check.due("move", x.move(0, 2, 33), 0);
        Check.due("lay", x.lay(), 0);
        Check.due("snap", x.snap(1), 6);
        Check.due("slide", x.slide(1, 1, 0), 0);
        Check.due("bands", x.count(2), 3);
        Check.due("undo the slide", x.undo(), 3);
        Check.due("slid back", pegsOf(x, 1), "40 43 63");
        Check.due("a wrong one can't be undone", x.slide(1, -5, 0), 1);
        Check.due("undo the snap", x.undo(), 2);
        Check.due("bands", x.count(2), 4);
        Check.due("the band is back", pegsOf(x, 1), "4 6 24");
        Check.due("undo the laying", x.undo(), 1);
        Check.due("bands", x.count(2), 3);
        Check.due("calls stay", x.count(5), 3);
        Check.due("undo the move", x.undo(), 0);
        stays(x, "all is undone");
        Check.due("none is", x.undo(), -1);
        Check.due("move", x.move(0, 2, 33), 0);
        Check.due("a new board", Check.board(x, THREE), 5);
        Check.due("nothing of the old one can be undone", x.undo(), -1);
        stays(x, "undone on a new board");
    }

    private static void images() {
        PegBands x = Check.on(THREE);
        Check.due("no such place", x.image(-1), false);
        Check.due("no such place", x.image(2), false);
        Check.due("no such place", x.image(MOST), false);
        Check.due("no such place", x.restore(2), false);
        Check.due("no such place", x.restore(-1), false);
        Check.due("nothing kept", x.restore(1), false);
        Check.due("calls", Check.calls(x, "at 5 4;by 2 0;by -1 2;by -1 -2;"), 3);
        Check.due("sentence", Check.sentence(x, "in a or area=4"), 2);
        Check.due("move", x.move(0, 2, 33), 0);
        Check.due("image", x.image(1), true);
        Check.due("an image changes nothing", x.undo(), 0);
        Check.due("move again", x.move(0, 2, 33), 0);
        Check.due("write", x.write(0), 38);
        Check.due("form", x.form(0, 0), 8);
        Check.due("faulty", Check.board(x, "board 5 5;band a 0 0 1 1 2 2;"), -29);
        Check.due("another board", Check.board(x, "board 3 3;bell;"), 2);
        Check.due("line", x.line(0, 1), true);
        Check.due("kept too", x.image(0), true);
        Check.tell(x, "xyz");
        Check.due("restored", x.restore(1), true);
        Check.due("nothing can be undone", x.undo(), -1);
        Check.due("the tape stays", x.count(7), 3);
        Check.due("w", x.count(0), 8);
        Check.due("h", x.count(1), 7);
        Check.due("bands", x.count(2), 3);
        Check.due("out", x.count(3), 1);
        Check.due("bell", x.count(4), 0);
        Check.due("by", x.count(5), 3);
        Check.due("lines", x.count(6), 0);
        Check.due("moved corner", pegsOf(x, 0), "0 2 33 20");
        Check.due("said", x.said(-1), 1);
        Check.due("said", x.said(0), 1);
        Check.due("names", Check.sentence(x, "in b or in a or in d"), 3);
        Check.due("why stays", x.why(), 3);
        Check.due("lay", x.lay(), 0);
        Check.due("byte stays", x.byteAt(0), 'a');
        Check.due("form stays", x.formAt(7), 0);
        Check.due("the other one", x.restore(0), true);
        Check.due("w", x.count(0), 3);
        Check.due("bell", x.count(4), 1);
        Check.due("lines", x.count(6), 1);
        Check.due("the line lies", x.line(0, 10), false);
        Check.due("no sentence", x.said(-1), -1);
        Check.due("no calls", x.closes(), -1);
        Check.due("nothing can be undone", x.undo(), -1);
        Check.due("again", x.again(), 1);
        Check.due("the image is its own", x.restore(0), true);
        Check.due("lines", x.count(6), 1);
        Check.due("the first image too", x.restore(1), true);
        Check.due("bands", x.count(2), 3);
        Check.due("kept anew", x.image(0), true);
        Check.due("restored", x.restore(0), true);
        Check.due("w", x.count(0), 8);
    }

    private static void imageOfNothing() {
        PegBands x = new PegBands();
        Check.due("image without a board", x.image(0), true);
        Check.due("a board", Check.board(x, THREE), 5);
        Check.due("move", x.move(0, 2, 33), 0);
        Check.due("restored", x.restore(0), true);
        Check.due("no board", x.count(0), 0);
        Check.due("no peg", x.peg(0), -1);
        Check.due("no bands", x.count(2), 0);
        Check.due("nothing can be undone", x.undo(), -1);
    }

    private static void counts() {
        PegBands x = Check.on("board 9 3;out 0 0;out 1 0;out 2 0;bell;band a 3 0 4 0 3 1;");
        Check.due("calls", Check.calls(x, "at 5 1;by 2 0;by -1 1;by -1 -1;by 0 0;"), 4);
        Check.tell(x, "seven b");
        int[] due = {9, 3, 1, 3, 1, 4, 0, 7};
        for (int what = 0; what < 8; what++) {
            Check.due("count(" + what + ")", x.count(what), due[what]);
        }
        Check.due("count(8)", x.count(8), -1);
        Check.due("count(-1)", x.count(-1), -1);
        Check.due("count(least)", x.count(LEAST), -1);
        Check.due("count(most)", x.count(MOST), -1);
        PegBands y = Check.on("board 2 2;");
        Check.due("line", y.line(0, 1), true);
        Check.due("line", y.line(10, 11), true);
        Check.due("count(6)", y.count(6), 2);
    }
}
