/** Promises 31 to 34: triangles, cuts, one triangle moved into another. */
public final class FindTest {
    private static final int LEAST = Integer.MIN_VALUE;
    private static final int MOST = Integer.MAX_VALUE;

    public static void main(String[] args) {
        triangles();
        smallest();
        cuts();
        moved();
        Check.finish();
    }

    private static void triangles(PegBands x, int on, int within, int... due) {
        String what = "triangles(" + on + ", " + within + ", ";
        Check.due(what + "NONE)", x.triangles(on, within, -1), due.length);
        for (int k = 0; k < due.length; k++) {
            Check.due(what + k + ")", x.triangles(on, within, k), due[k]);
        }
        Check.due(what + "behind)", x.triangles(on, within, due.length), -1);
        Check.due(what + "-2)", x.triangles(on, within, -2), -1);
        Check.due(what + "least)", x.triangles(on, within, LEAST), -1);
        Check.due(what + "most)", x.triangles(on, within, MOST), -1);
    }

    private static void triangles() {
        PegBands none = new PegBands();
        Check.due("no board", none.triangles(3, 0, -1), -1);
        Check.due("no board", none.smallest(3, 0), -1);
        PegBands x = Check.on("board 2 2;");
        triangles(x, 3, 0, 110, 111, 1011, 11011);
        triangles(x, 4, 0);
        triangles(x, 0, 0);
        triangles(x, 999, 999);
        Check.due("on too large", x.triangles(1000, 0, -1), -1);
        Check.due("on below 0", x.triangles(-1, 0, -1), -1);
        Check.due("within too large", x.triangles(3, 1000, -1), -1);
        Check.due("within below 0", x.triangles(3, -1, -1), -1);
        Check.due("all too large", x.triangles(MOST, MOST, -1), -1);
        Check.due("all below 0", x.triangles(LEAST, LEAST, 0), -1);
        triangles(Check.on("board 2 2;out 0 0;"), 3, 0, 11011);
        PegBands y = Check.on("board 3 3;");
        Check.due("3, 0", y.triangles(3, 0, -1), 32);
        Check.due("4, 0", y.triangles(4, 0, -1), 32);
        triangles(y, 3, 1, 1221, 11022, 11220, 21021);
        triangles(y, 4, 1, 221, 1220, 12022, 21022);
        triangles(y, 6, 0, 220, 222, 2022, 22022);
        Check.due("out ones make none", Check.on("board 3 3;out 1 1;out 0 0;out 2 2;").triangles(6, 0, -1), 0);
    }

    private static void smallest() {
        PegBands x = Check.on("board 3 3;");
        Check.due("smallest(3, 0)", x.smallest(3, 0), 1);
        Check.due("smallest(4, 0)", x.smallest(4, 0), 2);
        Check.due("smallest(3, 1)", x.smallest(3, 1), 3);
        Check.due("smallest(4, 1)", x.smallest(4, 1), 4);
        Check.due("smallest(6, 0)", x.smallest(6, 0), 4);
        Check.due("smallest(5, 0)", x.smallest(5, 0), -1);
        Check.due("smallest(0, 0)", x.smallest(0, 0), -1);
        Check.due("smallest(0, 2)", x.smallest(0, 2), -1);
        Check.due("smallest(-1, 3)", x.smallest(-1, 3), -1);
        Check.due("smallest(3, -1)", x.smallest(3, -1), -1);
        Check.due("smallest(1000, 0)", x.smallest(1000, 0), -1);
        Check.due("smallest(3, 1000)", x.smallest(3, 1000), -1);
        Check.due("smallest of one alone", Check.on("board 2 2;out 0 0;").smallest(3, 0), 1);
        Check.due("smallest of the largest", Check.on("board 10 10;").smallest(27, 28), 81);
    }

    private static void cuts(String band, int... due) {
        PegBands x = Check.on("board 10 10;out 1 0;band a " + band + ";");
        Check.due("cuts of " + band, x.cuts(0, -1), due.length);
        for (int k = 0; k < due.length; k++) {
            Check.due("cut " + k + " of " + band, x.cuts(0, k), due[k]);
        }
        Check.due("cuts behind", x.cuts(0, due.length), -1);
        Check.due("cuts(-2)", x.cuts(0, -2), -1);
        Check.due("cuts(least)", x.cuts(0, LEAST), -1);
        Check.due("no such band", x.cuts(1, -1), -1);
        Check.due("no such band", x.cuts(-1, -1), -1);
        Check.due("no such band", x.cuts(LEAST, 0), -1);
    }

    private static void cuts() {
        cuts("0 0 2 0 2 2 0 2", 22, 121, 220, 1210);
        cuts("2 0 2 2 0 2 0 0", 220, 1210, 2200, 2101);
        cuts("0 2 0 0 2 0 2 2", 2002, 1012, 22, 121);
        cuts("0 0 4 0 0 4", 22, 240, 420);
        cuts("0 0 2 1 4 0 2 4", 1242);
        cuts("0 0 3 1 1 2");
        // An L: from the corner bent in to the one across, and from side to side; one ends where a peg is out.
        cuts("0 0 0 4 4 4 4 2 2 2 2 0", 43, 1044, 2034, 3024, 4022, 4102, 4201);
        // Over the bay of a U no cut goes from side to side, though some would share it evenly.
        cuts("0 0 2 0 2 3 4 3 4 0 6 0 6 5 0 5", 3254, 3353, 3452);
    }

    private static int moved(String text, int a, int b) {
        return Check.on(text).moved(a, b);
    }

    private static void moved() {
        String two = "board 2 2;bell;band a 0 0 1 0 0 1;band b 1 0 0 1 1 1;band d 0 1 0 0 1 0;";
        Check.due("two moves", moved(two, 0, 1), 2);
        Check.due("two moves back", moved(two, 1, 0), 2);
        Check.due("whichever to whichever", moved(two, 0, 2), 0);
        Check.due("itself", moved(two, 0, 0), 0);
        Check.due("no such one", moved(two, 0, 3), -1);
        Check.due("no such one", moved(two, -1, 0), -1);
        Check.due("no such one", moved(two, MOST, LEAST), -1);
        PegBands snapped = Check.on(two);
        Check.due("snap", snapped.snap(2), 0);
        Check.due("one that snapped", snapped.moved(0, 2), -1);
        Check.due("one that snapped", snapped.moved(2, 0), -1);
        String four = "board 6 6;bell;band a 0 0 1 0 0 1;band b 5 0 4 0 5 1;band q 0 0 1 0 1 1 0 1;band e 1 0 0 1 2 2;";
        Check.due("four corners", moved(four, 0, 2), -1);
        Check.due("four corners", moved(four, 2, 0), -1);
        Check.due("four corners", moved(four, 2, 2), -1);
        // Sum of ways: 0 0 to 2 2 is 4 moves; nothing hinders if the corner goes round by 0 2.
        Check.due("36 places", moved(four, 0, 3), 4);
        Check.due("across the board", moved(four, 0, 1), 13);
        Check.due("36 places, 9 by 4", moved("board 9 4;band a 0 0 1 0 0 1;band b 8 3 8 2 7 3;", 0, 1) > 0, true);
        Check.due("40 places", moved("board 10 4;band a 0 0 1 0 0 1;", 0, 0), -1);
        Check.due("40 places", moved("board 4 10;band a 0 0 1 0 0 1;band b 2 0 3 0 3 1;", 0, 1), -1);
        // A column of pegs that are out parts the board.
        Check.due("not by any", moved("board 5 2;out 2 0;out 2 1;band a 0 0 1 0 0 1;band b 3 0 4 0 3 1;", 0, 1), -1);
        Check.due("round a gap", moved("board 5 3;out 2 0;out 2 1;band a 0 0 1 0 0 1;band b 3 0 4 0 3 1;", 0, 1) > 9, true);
        // Other bands don't hinder.
        String across = "board 6 3;band a 0 0 1 0 0 1;band m 2 0 3 0 3 2 2 2;band b 4 0 5 0 4 1;";
        String alone = "board 6 3;band a 0 0 1 0 0 1;band b 4 0 5 0 4 1;";
        Check.due("other bands", moved(across, 0, 2), moved(alone, 0, 1));
        Check.due("slid by four", moved(alone, 0, 1), 12);
    }
}
