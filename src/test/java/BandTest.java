/** Promises 8 to 16 and 21 to 24: what bands are. */
public final class BandTest {
    private static final int LEAST = Integer.MIN_VALUE;
    private static final int MOST = Integer.MAX_VALUE;

    public static void main(String[] args) {
        measures();
        noSuchOnes();
        cornersAndSides();
        over();
        crossings();
        liesIn();
        forms();
        alike();
        even();
        rims();
        wide();
        free();
        Check.finish();
    }

    private static void band(PegBands x, int b, int... due) {
        for (int what = 0; what < due.length; what++) {
            Check.due("band(" + b + ", " + what + ")", x.band(b, what), due[what]);
        }
    }

    private static void measures() {
        // A triangle, an arrow with a corner bent in, a house, an L.
        PegBands x = Check.on("board 10 10;bell;band tri 0 0 4 0 0 4;band arrow 0 0 2 1 4 0 2 4;"
            + "band house 0 2 2 0 4 2 4 4 0 4;band ell 0 0 0 4 4 4 4 2 2 2 2 0;band slim 0 0 9 1 9 0;");
        band(x, 0, 3, 16, 12, 3, 0, 1);
        band(x, 1, 4, 12, 6, 4, 1, 0);
        band(x, 2, 5, 24, 12, 7, 0, 3);
        band(x, 3, 6, 24, 16, 5, 1, 6);
        band(x, 4, 3, 9, 11, 0, 0, 1);
        // Told the other way round nothing changes.
        PegBands y = Check.on("board 10 10;bell;band arrow 2 4 4 0 2 1 0 0;band ell 2 0 2 2 4 2 4 4 0 4 0 0;");
        band(y, 0, 4, 12, 6, 4, 1, 0);
        band(y, 1, 6, 24, 16, 5, 1, 6);
        // A place counts as on or within, even if its peg is out.
        PegBands z = Check.on("board 5 5;out 1 1;out 2 0;band a 0 0 4 0 4 4 0 4;");
        band(z, 0, 4, 32, 16, 9, 0, 4, 0);
        // A comb of eight corners with two bent in.
        PegBands c = Check.on("board 10 10;band c 0 0 9 0 9 9 6 9 6 3 3 3 3 9 0 9;");
        band(c, 0, 8, 126, 48, 40, 2, 8, 0);
        PegBands whole = Check.on("board 10 10;band w 0 0 9 0 9 9 0 9;");
        band(whole, 0, 4, 162, 36, 64, 0, 4, 0);
        // Two crosses at the middle, and one more that lies apart.
        PegBands k = Check.on("board 7 7;bell;band a 2 0 3 0 3 5 2 5;band b 0 2 5 2 5 3 0 3;band d 4 4 6 4 6 6;");
        Check.due("crossings of a", k.band(0, 6), 4);
        Check.due("crossings of b", k.band(1, 6), 4);
        Check.due("crossings of d", k.band(2, 6), 0);
    }

    private static void noSuchOnes() {
        PegBands x = Check.on("board 5 5;band a 0 0 1 0 0 1;");
        int[] no = {-1, 1, 8, LEAST, MOST};
        for (int b : no) {
            Check.due("band(" + b + ") throws", Check.throwsNoSuch(x, b, 0), true);
            Check.due("corner", x.corner(b, 0), -1);
            Check.due("side", x.side(b, 0), -1);
            Check.due("cross", x.cross(b, 0, 0), -1);
            Check.due("cross the other", x.cross(0, b, 0), -1);
            Check.due("in", x.in(b, 0), -1);
            Check.due("in the other", x.in(0, b), -1);
            Check.due("alike", x.alike(b, 0, 0), -1);
            Check.due("alike the other", x.alike(0, b, 0), -1);
            Check.due("form", x.form(b, 0), -1);
            Check.due("rim", x.rim(b, 0), -1);
            Check.due("even", x.even(b, 0), -1);
            Check.due("wide", x.wide(b), -1);
        }
        int[] noWhat = {-1, 7, LEAST, MOST};
        for (int what : noWhat) {
            Check.due("band what " + what + " throws", Check.throwsNoSuch(x, 0, what), true);
            Check.due("over what", x.over(0, what), -1);
            Check.due("cross what", x.cross(0, 0, what), -1);
            Check.due("alike how", x.alike(0, 0, what), -1);
            Check.due("form how", x.form(0, what), -1);
            Check.due("rim what", x.rim(0, what), -1);
            Check.due("even how", x.even(0, what), -1);
        }
        Check.due("band(0, 6)", Check.throwsNoSuch(x, 0, 6), false);
        Check.due("over what 2", x.over(0, 2), -1);
        Check.due("alike how 3", x.alike(0, 0, 3), -1);
        Check.due("form how 3", x.form(0, 3), -1);
        Check.due("rim what 4", x.rim(0, 4), -1);
        Check.due("even how 3", x.even(0, 3), -1);
        Check.due("no form told yet", x.formAt(0), -1);
    }

    private static void cornersAndSides() {
        PegBands x = Check.on("board 10 9;band a 1 2 9 8 0 8;");
        int[] pegs = {21, 89, 80};
        int[] squares = {100, 81, 37};
        for (int i = 0; i < 3; i++) {
            Check.due("corner " + i, x.corner(0, i), pegs[i]);
            Check.due("side " + i, x.side(0, i), squares[i]);
        }
        int[] no = {-1, 3, 8, LEAST, MOST};
        for (int i : no) {
            Check.due("corner " + i, x.corner(0, i), -1);
            Check.due("side " + i, x.side(0, i), -1);
        }
    }

    private static void over() {
        PegBands x = Check.on("board 6 6;out 1 1;bell;band a 0 0 4 0 4 4 0 4;band b 2 2 5 2 5 5 2 5;band c 0 1 0 3 1 2;");
        Check.due("within a", x.over(13, 0), 1);
        Check.due("within a, the peg out", x.over(11, 0), 1);
        Check.due("on a and c", x.over(20, 1), 5);
        Check.due("on a and c, within none", x.over(20, 0), 0);
        Check.due("within both", x.over(33, 0), 3);
        Check.due("corner of b within a", x.over(22, 0), 1);
        Check.due("on b alone", x.over(22, 1), 2);
        Check.due("on c, within a", x.over(21, 1), 4);
        Check.due("within a, on c", x.over(21, 0), 1);
        Check.due("beside all", x.over(5, 0), 0);
        Check.due("beside all, on", x.over(5, 1), 0);
        Check.due("no place", x.over(6, 0), -1);
        Check.due("no place", x.over(60, 1), -1);
        Check.due("no place", x.over(-1, 1), -1);
        Check.due("no place", x.over(MOST, 1), -1);
        Check.due("no place", x.over(LEAST, 0), -1);
        // A row of places that runs through corners of the band.
        PegBands y = Check.on("board 9 5;band w 0 0 2 2 4 0 6 2 8 0 8 4 0 4;");
        Check.due("outside between the tips", y.over(12, 0), 0);
        Check.due("outside on the height of a corner", y.over(2, 0), 0);
        Check.due("inside on the height of corners", y.over(24, 0), 1);
        Check.due("inside below", y.over(34, 0), 1);
        Check.due("tip", y.over(4, 1), 1);
        Check.due("corner bent in", y.over(22, 1), 1);
        Check.due("side", y.over(11, 1), 1);
    }

    private static void crossings() {
        PegBands x = Check.on("board 8 8;bell;band a 2 0 3 0 3 5 2 5;band b 0 2 5 2 5 3 0 3;band d 2 0 7 0 7 1 2 1;"
            + "band e 6 6 7 6 7 7;band f 3 5 5 7 3 7;band g 0 5 2 4 0 7;");
        Check.due("a b cross", x.cross(0, 1, 0), 4);
        Check.due("b a cross", x.cross(1, 0, 0), 4);
        Check.due("a b touch", x.cross(0, 1, 1), 0);
        // a's sides: top lies on d's top; d's left side lies on a's left one.
        Check.due("a d cross", x.cross(0, 2, 0), 1);
        Check.due("a d touch", x.cross(0, 2, 1), 6);
        Check.due("a e cross", x.cross(0, 3, 0), 0);
        Check.due("a e touch", x.cross(0, 3, 1), 0);
        Check.due("corner on corner", x.cross(0, 4, 1), 4);
        Check.due("corner on corner is no crossing", x.cross(0, 4, 0), 0);
        Check.due("corner on a side", x.cross(0, 5, 1), 2);
        Check.due("corner on a side is no crossing", x.cross(0, 5, 0), 0);
        Check.due("one alone", x.cross(0, 0, 0), -1);
        Check.due("one alone", x.cross(0, 0, 1), -1);
        Check.due("what 2", x.cross(0, 1, 2), -1);
        Check.due("what -1", x.cross(0, 1, -1), -1);
    }

    private static void liesIn() {
        PegBands x = Check.on("board 9 9;bell;band a 0 0 8 0 8 8 0 8;band b 1 1 7 1 7 7 1 7;band c 2 2 3 2 2 3;"
            + "band d 0 4 2 4 1 6;band e 0 0 8 0 8 8 0 8;band f 6 6 8 7 6 8;");
        int[][] due = {
            {0, 0, 0, 0, 0, 0}, {1, 0, 0, 0, 1, 0}, {1, 1, 0, 0, 1, 0},
            {0, 0, 0, 0, 0, 0}, {0, 0, 0, 0, 0, 0}, {0, 0, 0, 0, 0, 0}};
        for (int a = 0; a < 6; a++) {
            for (int b = 0; b < 6; b++) {
                Check.due("in(" + a + ", " + b + ")", x.in(a, b), due[a][b]);
            }
        }
        // Beside it, in its bay.
        PegBands y = Check.on("board 9 9;band u 0 0 2 0 2 6 6 6 6 0 8 0 8 8 0 8;band t 3 2 5 2 4 4;");
        Check.due("in the bay", y.in(1, 0), 0);
        // All corners are enclosed, but the sides cross those of the other one.
        PegBands z = Check.on("board 9 9;bell;band u 0 0 3 0 3 5 5 5 5 0 8 0 8 8 0 8;band t 1 1 7 1 4 7;");
        Check.due("over the bay", z.in(1, 0), 0);
    }

    private static void forms() {
        PegBands x = Check.on("board 9 9;bell;band tri 3 3 6 3 3 8;band other 6 3 3 3 3 8;band ell 4 4 4 6 5 6 5 5 7 5 7 4;");
        Check.due("form 0", Check.form(x, 0, 0), "0 0 0 5 3 0");
        Check.due("form 0 from another corner", Check.form(x, 1, 0), "0 0 0 5 3 0");
        // Quarter turns: (0,0)(3,0)(0,5) | (5,0)(5,3)(0,0) | (3,5)(0,5)(3,0) | (0,3)(0,0)(5,3).
        Check.due("form 1", Check.form(x, 0, 1), "0 0 0 3 5 3");
        Check.due("form 2", Check.form(x, 0, 2), "0 0 0 3 5 0");
        Check.due("form 0 of the L", Check.form(x, 2, 0), "0 0 0 2 1 2 1 1 3 1 3 0");
        Check.due("form stays for a wrong call", x.form(0, 3), -1);
        Check.due("form stays", x.formAt(3), 2);
        Check.due("a fine board", Check.board(x, "board 3 3;"), 1);
        Check.due("form stays with a new board", x.formAt(3), 2);
        Check.due("alike does not tell a form", x.formAt(11), 0);
        // A triangle that is another one when turned over.
        PegBands y = Check.on("board 9 9;bell;band s 0 0 3 0 1 2;band r 0 0 3 0 2 2;");
        Check.due("s 0", Check.form(y, 0, 0), "0 0 1 2 3 0");
        Check.due("r 0", Check.form(y, 1, 0), "0 0 2 2 3 0");
        // Quarter turns of s: (0,0)(1,2)(3,0) | (2,0)(0,1)(2,3) | (3,2)(2,0)(0,2) | (0,3)(2,2)(0,0).
        Check.due("s 1", Check.form(y, 0, 1), "0 0 0 3 2 2");
        // Of r: (0,0)(2,2)(3,0) | (2,0)(0,2)(2,3) | (3,2)(1,0)(0,2) | (0,3)(2,1)(0,0).
        Check.due("r 1", Check.form(y, 1, 1), "0 0 0 3 2 1");
        Check.due("s 2", Check.form(y, 0, 2), "0 0 0 3 2 1");
        Check.due("r 2", Check.form(y, 1, 2), "0 0 0 3 2 1");
        Check.due("s and r by sliding", y.alike(0, 1, 0), 0);
        Check.due("s and r by turning", y.alike(0, 1, 1), 0);
        Check.due("s and r over", y.alike(0, 1, 2), 1);
    }

    private static void alike() {
        PegBands x = Check.on("board 10 10;bell;band a 0 0 2 0 0 1;band b 5 6 7 6 5 7;band c 5 5 5 7 4 5;"
            + "band d 5 5 5 7 6 5;band e 0 0 4 0 0 2;band f 0 0 2 0 2 1 0 1;band g 7 6 5 7 5 6;");
        int[] slid = {1, 1, 0, 0, 0, 0, 1};
        int[] turned = {1, 1, 1, 0, 0, 0, 1};
        int[] over = {1, 1, 1, 1, 0, 0, 1};
        for (int b = 0; b < 7; b++) {
            Check.due("alike(0, " + b + ", 0)", x.alike(0, b, 0), slid[b]);
            Check.due("alike(0, " + b + ", 1)", x.alike(0, b, 1), turned[b]);
            Check.due("alike(0, " + b + ", 2)", x.alike(0, b, 2), over[b]);
            Check.due("alike(" + b + ", 0, 2)", x.alike(b, 0, 2), over[b]);
        }
    }

    private static void even(PegBands x, int b, int half, int quarter, int over) {
        Check.due("even(" + b + ", 0)", x.even(b, 0), half);
        Check.due("even(" + b + ", 1)", x.even(b, 1), quarter);
        Check.due("even(" + b + ", 2)", x.even(b, 2), over);
    }

    private static void even() {
        PegBands x = Check.on("board 10 10;bell;band slope 1 0 3 1 2 3 0 2;band box 0 0 4 0 4 2 0 2;band slant 0 0 3 0 4 1 1 1;"
            + "band kite 0 0 2 1 4 4 1 2;band odd 0 0 3 0 1 2;band ess 0 0 2 0 2 1 3 1 3 2 1 2 1 1 0 1;"
            + "band pin 0 3 1 0 2 3;band square 5 5 7 5 7 7 5 7;");
        even(x, 0, 1, 1, 0);
        even(x, 1, 1, 0, 1);
        even(x, 2, 1, 0, 0);
        even(x, 3, 0, 0, 1);
        even(x, 4, 0, 0, 0);
        even(x, 5, 1, 0, 0);
        even(x, 6, 0, 0, 1);
        even(x, 7, 1, 1, 1);
        // A pinwheel that is the same by a quarter, and not turned over.
        PegBands y = Check.on("board 10 10;band wheel 1 0 3 1 5 1 4 3 4 5 2 4 0 4 1 2;");
        even(y, 0, 1, 1, 0);
    }

    private static void rims() {
        PegBands x = Check.on("board 10 10;bell;band a 3 4 9 5 5 9;band b 0 0 9 9 0 9;");
        int[] a = {3, 4, 6, 5};
        int[] b = {0, 0, 9, 9};
        for (int what = 0; what < 4; what++) {
            Check.due("rim(0, " + what + ")", x.rim(0, what), a[what]);
            Check.due("rim(1, " + what + ")", x.rim(1, what), b[what]);
        }
    }

    private static void wide() {
        PegBands x = Check.on("board 10 10;bell;band a 0 0 9 0 9 9 0 9;band b 0 0 1 0 0 1;band c 4 0 6 3 4 9 2 3;");
        Check.due("wide(0)", x.wide(0), 162);
        Check.due("wide(1)", x.wide(1), 2);
        Check.due("wide(2)", x.wide(2), 81);
        Check.due("wide(3)", x.wide(3), -1);
        Check.due("wide(-1)", x.wide(-1), -1);
    }

    private static void free() {
        PegBands x = Check.on("board 5 5;out 4 4;out 1 1;bell;band a 0 0 2 0 2 2 0 2;band b 1 2 3 1 3 3;");
        // 23 pegs; a holds 8 of them, b holds 3 1, 2 2, 3 2 and 3 3 besides 1 2: three more than a.
        Check.due("free", x.free(), 12);
        Check.due("free without bands", Check.on("board 10 10;out 0 0;").free(), 99);
        Check.due("none free", Check.on("board 3 3;band a 0 0 2 0 2 2 0 2;").free(), 0);
    }
}
