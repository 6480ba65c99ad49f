/** The boundaries in part 2 of the document's "Terms": bands and what is said of them. Each part names its sentence. */
public final class EdgeBandTest {
    public static void main(String[] args) {
        corners();
        sides();
        wrongOne();
        wrongTwo();
        wrongThree();
        wrongFour();
        wrongFive();
        wrongLeast();
        area();
        on();
        within();
        square();
        bentIn();
        right();
        crossings();
        touches();
        liesIn();
        formSlid();
        formFromAnyCorner();
        formLeast();
        alike();
        shortest();
        shortestOfLikeOnes();
        closes();
        mended();
        Check.finish();
    }

    private static PegBands with(String bands) {
        return Check.on("board 10 10;bell;" + bands);
    }

    private static PegBands one(String corners) {
        return Check.on("board 10 10;band a " + corners + ";");
    }

    /** A band told in a board, and laid by calls: wrong by the same. */
    private static void wrong(String head, String corners, int why) {
        PegBands x = new PegBands();
        String text = head + "band z " + corners + ";";
        Check.due("board '" + text + "'", Check.board(x, text), why == 0 ? text.split(";").length : -text.length());
        Check.due("fault of '" + text + "'", x.fault(), why == 0 ? 0 : 5);
        Check.due("why of '" + text + "'", x.why(), why);
        lays(head, corners, why);
    }

    private static void lays(String head, String corners, int why) {
        PegBands x = Check.on(head);
        int bands = x.count(2);
        String[] n = corners.split(" ");
        StringBuilder text = new StringBuilder("at " + n[0] + " " + n[1] + ";");
        for (int i = 0; i < n.length; i += 2) {
            int more = (i + 2) % n.length;
            text.append("by ").append(Integer.parseInt(n[more]) - Integer.parseInt(n[i]));
            text.append(' ').append(Integer.parseInt(n[more + 1]) - Integer.parseInt(n[i + 1])).append(';');
        }
        Check.due("calls '" + text + "'", Check.calls(x, text.toString()), n.length / 2);
        Check.due("lay '" + text + "' on '" + head + "'", x.lay(), why);
        Check.due("bands then", x.count(2), why == 0 ? bands + 1 : bands);
    }

    private static void corners() {
        Check.part("Terms 2, a BAND has 3 to 8 corners and as many SIDES");
        PegBands x = with("band a 0 0 1 0 0 1;band b 0 0 2 0 2 1 4 1 4 4 3 4 3 2 0 2;");
        Check.due("3 corners", x.band(0, 0), 3);
        Check.due("3 sides", x.side(0, 2), 1);
        Check.due("no fourth side", x.side(0, 3), -1);
        Check.due("8 corners", x.band(1, 0), 8);
        Check.due("8 sides", x.side(1, 7), 4);
        Check.due("no ninth side", x.side(1, 8), -1);
    }

    private static void sides() {
        Check.part("Terms 2, SIDES from each corner to the next, from the last one to the first");
        PegBands x = one("0 0 3 0 3 1 0 5");
        int[] squares = {9, 1, 25, 25};
        for (int i = 0; i < 4; i++) {
            Check.due("side " + i, x.side(0, i), squares[i]);
        }
        Check.due("on the last side", x.over(20, 1), 1);
        // The last side of a is crossed by a side of b and by its last one.
        Check.due("the last sides cross", with("band a 4 0 9 0 9 4 4 4;band b 6 2 6 1 1 1 1 2;").cross(0, 1, 0), 2);
    }

    private static void wrongOne() {
        Check.part("Terms 2, WRONG 1: a corner is on no PEG (out, or not on the BOARD)");
        String head = "board 6 5;out 2 2;";
        wrong(head, "2 2 3 2 3 3", 1);
        wrong(head, "3 2 2 2 3 3", 1);
        wrong(head, "3 2 3 3 2 2", 1);
        // A peg that is out on a side or within hinders nothing.
        wrong(head, "1 2 3 2 3 4", 0);
        wrong(head, "1 1 3 1 3 3 1 3", 0);
        // Not on the board: one row or column beyond each of its four edges.
        lays(head, "5 0 6 0 5 1", 1);
        lays(head, "0 4 0 5 1 4", 1);
        lays(head, "0 0 -1 0 0 1", 1);
        lays(head, "0 0 0 -1 1 0", 1);
        lays(head, "5 0 4 0 5 1", 0);
        lays(head, "0 4 0 3 1 4", 0);
        PegBands x = Check.on("board 6 5;band a 1 1 4 1 4 3;");
        int[][] off = {{-2, 0}, {2, 0}, {0, -2}, {0, 2}, {10, -1}, {-10, 1}};
        for (int[] by : off) {
            Check.due("slide off", x.slide(0, by[0], by[1]), 1);
        }
        int[][] inside = {{-1, 0}, {2, 0}, {-1, -1}, {0, 2}};
        for (int[] by : inside) {
            Check.due("slide to the edge", x.slide(0, by[0], by[1]), 0);
        }
        // Where rows have ten pegs, the number beyond a row's end is that of a peg in another row.
        PegBands wide = Check.on("board 10 10;bell;band a 8 1 9 1 9 3;band b 0 4 1 4 0 6;band c 8 8 9 8 9 9;");
        Check.due("beyond the right end", wide.slide(0, 1, 0), 1);
        Check.due("beyond the left end", wide.slide(1, -1, 0), 1);
        Check.due("beyond the last row", wide.slide(2, 0, 1), 1);
        Check.due("beyond the first row", wide.slide(0, 0, -2), 1);
        Check.due("to the first row", wide.slide(0, 0, -1), 0);
        Check.due("to the last row", wide.slide(1, 0, 3), 0);
        Check.due("to the last column", wide.slide(1, 8, 0), 0);
        Check.due("from the last row", wide.slide(2, -8, -8), 0);
        Check.due("bands", Check.bands(wide), "8 9 29;78 79 98;0 1 11;");
        lays("board 10 10;", "9 1 10 1 9 3", 1);
        lays("board 10 10;", "0 4 -1 5 1 6", 1);
        lays("board 10 10;", "9 9 9 10 8 9", 1);
        lays("board 10 10;", "0 0 1 -1 2 0", 1);
    }

    private static void wrongTwo() {
        Check.part("Terms 2, WRONG 2: two corners are on one PEG");
        String head = "board 6 6;";
        wrong(head, "0 0 2 0 0 0", 2);
        wrong(head, "0 0 0 0 2 2", 2);
        wrong(head, "0 0 2 2 2 2", 2);
        wrong(head, "0 0 2 0 2 2 0 2 0 0", 2);
        wrong(head, "0 0 2 1 4 0 4 3 2 1 0 3", 2);
        wrong(head, "1 0 2 0 3 0 4 0 5 0 5 5 0 5 1 0", 2);
        wrong(head, "0 0 2 1 4 0 4 3 2 2 0 3", 0);
    }

    private static void wrongThree() {
        Check.part("Terms 2, WRONG 3: a corner does not bend (both its SIDES are in one line)");
        String head = "board 7 7;";
        // Straight on, at the second corner, the last one and, going round, the first one.
        wrong(head, "0 0 2 0 4 0 4 4", 3);
        wrong(head, "4 0 4 4 0 0 2 0", 3);
        wrong(head, "2 0 4 0 4 4 0 0", 3);
        wrong(head, "0 0 1 2 2 4 5 0", 3);
        // Folded back.
        wrong(head, "0 0 4 0 2 0 2 4", 3);
        wrong(head, "2 4 0 0 4 0 2 0", 3);
        wrong(head, "4 0 2 0 2 4 0 0", 3);
        wrong(head, "0 0 3 3 6 6", 3);
        // As near to a line as pegs can be, it bends.
        wrong(head, "0 0 3 1 6 3", 0);
        wrong("board 10 10;", "0 0 5 4 9 7", 0);
        wrong("board 10 10;", "0 0 8 7 9 8", 0);
    }

    private static void wrongFour() {
        Check.part("Terms 2, WRONG 4: two of its SIDES have a point in common that is not the corner between them");
        String head = "board 8 8;";
        wrong(head, "0 0 2 2 2 0 0 2", 4);
        wrong(head, "0 0 2 2 0 2 2 0", 4);
        // A corner on a side, first, last and between.
        wrong(head, "2 0 4 4 0 4 0 0 4 0 6 3", 4);
        wrong(head, "0 0 4 0 4 4 2 0 0 4", 4);
        wrong(head, "0 0 4 0 4 3 0 2 2 3 0 4", 4);
        wrong(head, "0 2 2 3 0 4 0 0 4 0 4 1", 4);
        // Sides in one line that lie on one another, without a common corner.
        wrong(head, "0 0 5 0 5 2 4 0 1 0 0 2", 4);
        // In one line, but apart: not wrong.
        wrong(head, "0 0 2 0 2 2 4 2 4 0 6 0 6 4 0 4", 0);
        // The last side and one that is not next to it.
        wrong(head, "0 4 4 4 4 0 2 5 0 0", 4);
        wrong(head, "0 0 4 0 4 4 2 1 0 4", 0);
    }

    private static void wrongFive() {
        Check.part("Terms 2, WRONG 5, without a bell: a SIDE of it has a point in common with a SIDE of another BAND");
        String head = "board 9 9;band a 2 2 6 2 6 6 2 6;";
        wrong(head, "0 3 4 3 0 5", 5);
        wrong(head, "2 2 0 2 0 0", 5);
        wrong(head, "4 2 3 0 5 0", 5);
        wrong(head, "0 2 2 0 3 1", 0);
        wrong(head, "0 4 4 0 0 0", 5);
        wrong(head, "0 3 3 0 0 0", 0);
        wrong(head, "1 2 1 6 0 4", 0);
        wrong(head, "2 3 2 5 0 4", 5);
        wrong(head, "2 7 2 8 3 8", 0);
        wrong(head, "2 6 2 8 3 8", 5);
        // Inside of it and round about it, without a common point.
        wrong(head, "3 3 5 3 5 5 3 5", 0);
        wrong(head, "1 1 7 1 7 7 1 7", 0);
        wrong(head, "3 3 6 4 3 5", 5);
        // With the last side of one and the last side of the other.
        wrong("board 9 9;band a 4 4 8 4 8 8;", "5 7 5 8 7 5", 5);
        // A band behind others that are fine.
        wrong("board 9 9;band a 0 0 1 0 0 1;band b 3 0 4 0 3 1;", "4 0 5 0 5 1", 5);
        wrong("board 9 9;band a 0 0 1 0 0 1;band b 3 0 4 0 3 1;", "5 0 6 0 6 1", 0);
        wrong("board 9 9;bell;band a 2 2 6 2 6 6 2 6;", "2 2 6 2 6 6 2 6", 0);
        // It never meets itself: where it is and a little beside.
        PegBands x = Check.on(head);
        Check.due("slide to where it is", x.slide(0, 0, 0), 0);
        Check.due("move to where it is", x.move(0, 0, 22), 0);
        Check.due("slide along itself", x.slide(0, 1, 0), 0);
    }

    private static void wrongLeast() {
        Check.part("Terms 2, WRONG, the least");
        String head = "board 8 8;out 7 7;band a 0 0 1 0 0 1;";
        // 1 and 2; 1 and 3; 1 and 4; 1 and 5.
        wrong(head, "7 7 7 7 4 4", 1);
        wrong(head, "3 3 5 5 7 7", 1);
        wrong(head, "7 7 5 5 5 7 7 5", 1);
        wrong(head, "1 0 2 0 7 7", 1);
        // 2 and 3; 2 and 4; 2 and 5.
        wrong(head, "3 3 5 3 3 3", 2);
        wrong(head, "3 3 5 5 3 5 5 3 4 2 3 3", 2);
        wrong(head, "1 0 3 0 1 0", 2);
        // 3 and 4; 3 and 5; 4 and 5.
        wrong(head, "2 2 4 2 6 2 4 4 4 1", 3);
        wrong(head, "1 0 2 0 3 0", 3);
        wrong(head, "1 0 3 2 3 0 1 2", 4);
    }

    private static void area() {
        Check.part("Terms 2, AREA: twice what it encloses");
        Check.due("the least", one("0 0 1 0 0 1").band(0, 1), 1);
        Check.due("a slim one", one("0 0 9 8 8 7").band(0, 1), 1);
        Check.due("the largest", one("0 0 9 0 9 9 0 9").band(0, 1), 162);
        Check.due("the other way round", one("0 9 9 9 9 0 0 0").band(0, 1), 162);
        Check.due("with a bay", one("0 0 9 0 9 9 5 9 5 1 4 1 4 9 0 9").band(0, 1), 146);
    }

    private static void on() {
        Check.part("Terms 2, ON: places (PEGS, or where one is out) on its SIDES, corners too");
        Check.due("corners alone", one("0 0 1 0 0 1").band(0, 2), 3);
        Check.due("all round", one("0 0 9 0 9 9 0 9").band(0, 2), 36);
        Check.due("aslant", one("0 0 9 9 0 9").band(0, 2), 27);
        PegBands x = Check.on("board 4 4;out 1 0;out 1 1;band a 0 0 3 0 3 3;");
        Check.due("those out count", x.band(0, 2), 9);
        Check.due("one out is on it", x.over(1, 1), 1);
        Check.due("one out on the last side", x.over(11, 1), 1);
        Check.due("a corner is on it", x.over(33, 1), 1);
        Check.due("in line with a side, behind its end", one("0 0 2 0 0 2").over(3, 1), 0);
    }

    private static void within() {
        Check.part("Terms 2, WITHIN: places enclosed, none of these ON");
        Check.due("none", one("0 0 1 0 0 1").band(0, 3), 0);
        Check.due("none in a row of boxes", one("0 0 9 0 9 1 0 1").band(0, 3), 0);
        Check.due("one", one("0 0 2 0 2 2 0 2").band(0, 3), 1);
        Check.due("the most", one("0 0 9 0 9 9 0 9").band(0, 3), 64);
        PegBands x = Check.on("board 4 4;out 1 1;band a 0 0 3 0 3 3 0 3;");
        Check.due("one out counts", x.band(0, 3), 4);
        Check.due("one out is within", x.over(11, 0), 1);
        Check.due("a corner is not", x.over(0, 0), 0);
        Check.due("a place on a side is not", x.over(1, 0), 0);
        // Place by place: + within, o on it, . neither.
        map("0 4 4 1 9 0 6 5 8 9 2 7", ".........o ....o++++. ...+++++.. ..++++++.. o++++++... "
            + ".+++++o... ..+++++... ..o++++o.. .....o++.. ........o.");
        map("0 3 9 5 0 9", ".......... .......... .......... o......... o++++..... "
            + "o++++++++o o++++++... o++++..... o++....... o.........");
        map("0 0 2 2 4 0 6 2 8 0 9 9 0 9", "o...o...o. oo.o+o.o+. o+o+++o++. o++++++++. o++++++++. "
            + "o++++++++. o++++++++. o++++++++. o++++++++. oooooooooo");
    }

    /** What over() tells of each place of a board of ten by ten, row by row; band() and free() count as many. */
    private static void map(String corners, String due) {
        PegBands x = one(corners);
        StringBuilder s = new StringBuilder();
        for (int at = 0; at < 100; at++) {
            s.append(at > 0 && at % 10 == 0 ? " " : "");
            s.append(x.over(at, 0) == 1 ? '+' : x.over(at, 1) == 1 ? 'o' : '.');
        }
        Check.due("places of " + corners, s.toString(), due);
        Check.due("ON of " + corners, x.band(0, 2), due.length() - due.replace("o", "").length());
        Check.due("WITHIN of " + corners, x.band(0, 3), due.length() - due.replace("+", "").length());
        int free = due.length() - due.replace(".", "").length();
        Check.due("free pegs about " + corners, x.free(), free);
        Check.due("pegs in " + corners, x.snap(0), 100 - free);
    }

    private static void square() {
        Check.part("Terms 2, a SIDE's SQUARE: the square of its length");
        Check.due("the least", one("0 0 1 0 0 1").side(0, 0), 1);
        Check.due("aslant", one("0 0 1 0 0 1").side(0, 1), 2);
        Check.due("along the board", one("0 0 9 0 0 9").side(0, 0), 81);
        Check.due("across the board", one("0 0 9 0 0 9").side(0, 1), 162);
    }

    private static void bentIn() {
        Check.part("Terms 2, BENT IN: one turns there the other way than round it in all");
        Check.due("none", one("0 0 4 0 4 4 0 4").band(0, 4), 0);
        Check.due("none, the other way round", one("0 4 4 4 4 0 0 0").band(0, 4), 0);
        // The one bent in is each corner in turn, both ways round.
        String[] n = {"0 0", "2 1", "4 0", "2 4"};
        for (int first = 0; first < 4; first++) {
            Check.due("one", one(n[first] + " " + n[(first + 1) % 4] + " " + n[(first + 2) % 4] + " " + n[(first + 3) % 4]).band(0, 4), 1);
            Check.due("back", one(n[(first + 3) % 4] + " " + n[(first + 2) % 4] + " " + n[(first + 1) % 4] + " " + n[first]).band(0, 4), 1);
        }
        // Three corners at least are not bent in.
        Check.due("a star of four", one("0 0 4 3 9 0 5 4 9 9 4 5 0 9 3 4").band(0, 4), 4);
        Check.due("five of eight", one("0 0 9 0 6 1 4 2 3 3 2 5 1 8 1 9").band(0, 4), 5);
    }

    private static void right() {
        Check.part("Terms 2, RIGHT: its SIDES stand square on one another");
        Check.due("none", one("0 0 4 1 1 2").band(0, 5), 0);
        Check.due("one of three", one("0 0 9 0 0 1").band(0, 5), 1);
        Check.due("at the first corner", one("4 4 5 6 2 5").band(0, 5), 1);
        Check.due("at the last corner", one("5 6 2 5 4 4").band(0, 5), 1);
        Check.due("four aslant", one("1 0 3 1 2 3 0 2").band(0, 5), 4);
        Check.due("all eight, those bent in too", one("0 0 9 0 9 9 6 9 6 3 3 3 3 9 0 9").band(0, 5), 8);
        Check.due("nearly right", one("0 0 9 1 0 9").band(0, 5), 0);
    }

    private static void meet(String a, String b, int crossings, int touches) {
        PegBands x = with("band a " + a + ";band b " + b + ";");
        String both = a + " and " + b;
        Check.due("crossings of " + both, x.cross(0, 1, 0), crossings);
        Check.due("touches of " + both, x.cross(0, 1, 1), touches);
        Check.due("crossings back of " + both, x.cross(1, 0, 0), crossings);
        Check.due("touches back of " + both, x.cross(1, 0, 1), touches);
        Check.due("all crossings of " + both, x.band(0, 6), crossings);
        Check.due("all crossings back of " + both, x.band(1, 6), crossings);
    }

    private static void crossings() {
        Check.part("Terms 2, CROSSINGS: pairs of SIDES that have just one point in common, no end of either");
        meet("0 0 4 0 4 4 0 4", "2 2 6 2 6 6 2 6", 2, 0);
        meet("0 0 4 0 4 4 0 4", "5 5 6 5 5 6", 0, 0);
        meet("0 0 4 0 4 4 0 4", "1 1 2 1 1 2", 0, 0);
        meet("2 0 3 0 3 5 2 5", "0 2 5 2 5 3 0 3", 4, 0);
        // Between pegs.
        meet("0 0 3 2 0 2", "1 1 3 0 3 1", 2, 0);
        // An end of one on a side of the other is none, and neither is an end on an end.
        meet("0 0 4 0 0 4", "2 2 4 2 4 4", 0, 2);
        meet("0 0 4 0 0 4", "4 0 5 0 5 1", 0, 4);
    }

    private static void touches() {
        Check.part("Terms 2, TOUCHES: pairs that have a point in common and are no CROSSING");
        // A corner in the middle of a side touches with both its sides.
        meet("0 0 4 0 4 4 0 4", "4 2 6 1 6 3", 0, 2);
        // The same from inside.
        meet("0 0 4 0 4 4 0 4", "4 2 2 1 2 3", 0, 2);
        // Sides on one another: with each other, and with those next to them where their ends lie on it.
        meet("0 0 4 0 4 4 0 4", "4 1 6 2 4 3", 0, 3);
        // A band on itself: each side with itself and its two neighbours.
        meet("0 0 4 0 4 4 0 4", "0 0 4 0 4 4 0 4", 0, 12);
        meet("0 0 4 0 0 4", "0 0 0 4 4 0", 0, 9);
        // Two sides in one line that share an end alone.
        meet("0 0 2 0 0 2", "2 0 4 0 4 2", 0, 4);
        // In one line, apart.
        meet("0 0 2 0 0 2", "3 0 5 0 5 2", 0, 0);
        // A corner passes through a corner of the other one: four pairs, no crossing.
        meet("0 0 4 2 0 4", "4 2 8 0 8 4", 0, 4);
        meet("0 0 4 2 0 4", "4 2 1 1 1 3", 0, 4);
    }

    private static void in(String a, String b, int due) {
        PegBands x = with("band a " + a + ";band b " + b + ";");
        Check.due(a + " in " + b, x.in(0, 1), due);
        Check.due(b + " in " + a, x.in(1, 0), 0);
    }

    private static void liesIn() {
        Check.part("Terms 2, LIES IN: no SIDES have a point in common and its corners are enclosed by the other");
        in("1 1 2 1 1 2", "0 0 4 0 4 4 0 4", 1);
        in("1 1 8 1 8 8 1 8", "0 0 9 0 9 9 0 9", 1);
        // A corner on a side, a corner on a corner.
        in("0 1 2 1 1 2", "0 0 4 0 4 4 0 4", 0);
        in("0 0 2 1 1 2", "0 0 4 0 4 4 0 4", 0);
        in("1 1 4 4 1 3", "0 0 4 0 4 4 0 4", 0);
        // Beside it, in its bay, and with sides over the bay.
        in("5 5 6 5 5 6", "0 0 4 0 4 4 0 4", 0);
        in("3 1 5 1 4 3", "0 0 2 0 2 6 6 6 6 0 8 0 8 8 0 8", 0);
        in("1 1 7 1 4 7", "0 0 3 0 3 5 5 5 5 0 8 0 8 8 0 8", 0);
        // At the height of corners and of a side of the other one.
        in("4 4 5 4 4 5", "2 2 8 2 9 4 8 8 2 8 1 4", 1);
        in("3 4 4 3 4 4", "6 4 8 4 8 8 0 8 0 0 6 0", 1);
        in("9 4 9 5 8 5", "0 0 7 0 7 4 4 4 4 8 0 8", 0);
        // One and the same never lies in itself.
        Check.due("itself", one("0 0 4 0 4 4 0 4").in(0, 0), 0);
        in("0 0 4 0 4 4 0 4", "0 0 4 0 4 4 0 4", 0);
    }

    private static void formSlid() {
        Check.part("Terms 2, FORM: corners slid so that the least X and Y are 0");
        Check.due("at the first peg", Check.form(one("0 0 1 0 0 1"), 0, 0), "0 0 0 1 1 0");
        Check.due("at the last peg", Check.form(one("8 8 9 8 8 9"), 0, 0), "0 0 0 1 1 0");
        Check.due("the whole board", Check.form(one("9 9 9 0 0 0 0 9"), 0, 0), "0 0 0 9 9 9 9 0");
        // The least X and the least Y are at different corners.
        Check.due("no corner at 0 0", Check.form(one("5 3 4 5 7 4"), 0, 0), "0 2 1 0 3 1");
    }

    private static void formFromAnyCorner() {
        Check.part("Terms 2, FORM: told from any corner on, either way round");
        String[] n = {"5 3", "4 5", "7 4", "6 3"};
        for (int first = 0; first < 4; first++) {
            String ahead = n[first] + " " + n[(first + 1) % 4] + " " + n[(first + 2) % 4] + " " + n[(first + 3) % 4];
            String back = n[first] + " " + n[(first + 3) % 4] + " " + n[(first + 2) % 4] + " " + n[(first + 1) % 4];
            Check.due("form of " + ahead, Check.form(one(ahead), 0, 0), "0 2 1 0 2 0 3 1");
            Check.due("form of " + back, Check.form(one(back), 0, 0), "0 2 1 0 2 0 3 1");
        }
        Check.due("eight corners", Check.form(one("9 9 9 6 6 6 6 3 9 3 9 0 0 0 0 9"), 0, 0), "0 0 0 9 9 9 9 6 6 6 6 3 9 3 9 0");
    }

    private static void formLeast() {
        Check.part("Terms 2, FORM: the least of such rows by sliding alone (0), also turned (1), also turned over (2)");
        // (0,0)(3,0)(1,2) and its quarter turns: see what each how may choose from.
        PegBands x = one("2 2 5 2 3 4");
        Check.due("how 0", Check.form(x, 0, 0), "0 0 1 2 3 0");
        Check.due("how 1", Check.form(x, 0, 1), "0 0 0 3 2 2");
        Check.due("how 2", Check.form(x, 0, 2), "0 0 0 3 2 1");
        // Turned by a half, by three quarters, it is the least.
        Check.due("by a half", Check.form(one("3 2 0 2 2 0"), 0, 1), "0 0 0 3 2 2");
        Check.due("by three quarters", Check.form(one("0 3 0 0 2 2"), 0, 1), "0 0 0 3 2 2");
        Check.due("by a quarter", Check.form(one("2 0 2 3 0 1"), 0, 1), "0 0 0 3 2 2");
        // Turned over alone, and over and turned.
        Check.due("over", Check.form(one("0 0 3 0 2 2"), 0, 2), "0 0 0 3 2 1");
        Check.due("over and turned", Check.form(one("0 0 0 3 2 2"), 0, 2), "0 0 0 3 2 1");
    }

    private static void alike() {
        Check.part("Terms 2, ALIKE are two BANDS with like FORMS");
        PegBands x = with("band a 0 0 2 0 0 1;band b 7 8 9 8 7 9;band c 5 5 5 7 4 5;band d 5 5 5 7 6 5;band e 0 0 3 0 0 1;"
            + "band f 0 0 2 0 2 1 0 1;");
        int[][] due = {{1, 1, 1}, {1, 1, 1}, {0, 1, 1}, {0, 0, 1}, {0, 0, 0}, {0, 0, 0}};
        for (int b = 0; b < 6; b++) {
            for (int how = 0; how < 3; how++) {
                Check.due("alike(0, " + b + ", " + how + ")", x.alike(0, b, how), due[b][how]);
                Check.due("alike(" + b + ", 0, " + how + ")", x.alike(b, 0, how), due[b][how]);
            }
        }
        // The same first corners, one more behind them.
        PegBands y = with("band a 0 0 0 2 1 2 1 0;band b 0 0 0 2 1 2 1 1 2 0;");
        Check.due("more corners", y.alike(0, 1, 2), 0);
        Check.due("fewer corners", y.alike(1, 0, 2), 0);
        // Two corners' order alone tells them apart.
        PegBands z = with("band a 0 0 4 0 4 4 2 1;band b 0 0 4 0 2 1 4 4;");
        Check.due("other sides", z.alike(0, 1, 2), 0);
    }

    private static void writes(String corners, String due) {
        PegBands x = one(corners);
        int n = x.write(0);
        Check.due("bytes for " + corners, n, due.length());
        Check.due("text for " + corners, Check.made(x, n), due);
    }

    private static void shortest() {
        Check.part("Terms 2, the shortest CALLS: of all corners, either way round, those of fewest bytes");
        // As told there are 2 signs, the other way 4.
        writes("0 0 3 1 6 3", "at 0 0;by 3 1;by 3 2;by -6 -3;");
        writes("6 3 3 1 0 0", "at 6 3;by -6 -3;by 3 1;by 3 2;");
        // One sign less alone: 3 and 4 of them.
        writes("0 0 2 1 4 4 1 4", "at 0 0;by 2 1;by 2 3;by -3 0;by -1 -4;");
        writes("1 4 4 4 2 1 0 0", "at 1 4;by -1 -4;by 2 1;by 2 3;by -3 0;");
        // 0 has no sign.
        writes("0 0 9 0 9 9 0 9", "at 0 0;by 9 0;by 0 9;by -9 0;by 0 -9;");
        writes("9 9 9 0 0 0 0 9 3 9 3 3 6 3 6 9", "at 9 9;by 0 -9;by -9 0;by 0 9;by 3 0;by 0 -6;by 3 0;by 0 6;by 3 0;");
        // Signs of X and of Y count alike: 3 and 1 of them one way, 1 and 4 the other; and so with X for Y.
        writes("3 0 2 1 1 3 0 6 3 7", "at 3 0;by -1 1;by -1 2;by -1 3;by 3 1;by 0 -7;");
        writes("3 7 0 6 1 3 2 1 3 0", "at 3 7;by 0 -7;by -1 1;by -1 2;by -1 3;by 3 1;");
        writes("0 3 1 2 3 1 6 0 7 3", "at 0 3;by 1 -1;by 2 -1;by 3 -1;by 1 3;by -7 0;");
        writes("7 3 6 0 3 1 1 2 0 3", "at 7 3;by -7 0;by 1 -1;by 2 -1;by 3 -1;by 1 3;");
        // The longest text: each of 16 numbers leads back on one of the two ways, 8 on either.
        writes("3 0 5 1 6 3 5 5 3 6 1 5 0 3 1 1", "at 3 0;by 2 1;by 1 2;by -1 2;by -2 1;by -2 -1;by -1 -2;by 1 -2;by 2 -1;");
    }

    private static void shortestOfLikeOnes() {
        Check.part("Terms 2, of like ones the first corner, round as it is told ahead of the other way");
        writes("0 0 2 0 2 2 0 2", "at 0 0;by 2 0;by 0 2;by -2 0;by 0 -2;");
        writes("0 0 0 2 2 2 2 0", "at 0 0;by 0 2;by 2 0;by 0 -2;by -2 0;");
        writes("2 2 0 2 0 0 2 0", "at 2 2;by -2 0;by 0 -2;by 2 0;by 0 2;");
        writes("0 0 1 0 0 1", "at 0 0;by 1 0;by -1 1;by 0 -1;");
        writes("0 1 0 0 1 0", "at 0 1;by 0 -1;by 1 0;by -1 1;");
        // All corners are like ones, so the first is told, the other way if that is shorter.
        writes("3 1 0 0 6 3", "at 3 1;by 3 2;by -6 -3;by 3 1;");
    }

    private static int closing(String by) {
        PegBands x = Check.on("board 5 5;");
        Check.due("calls " + by, Check.calls(x, "at 0 0;" + by) > 0, true);
        return x.closes();
    }

    private static void closes() {
        Check.part("Terms 2, CALLS that do not CLOSE: all X, all Y added are not 0");
        Check.due("both 0", closing("by 2 1;by -1 1;by -1 -2;"), 1);
        Check.due("all 0", closing("by 0 0;by 0 0;by -0 -0;"), 1);
        Check.due("far off the board", closing("by 9 9;by 9 9;by -9 -9;by -9 -9;"), 1);
        Check.due("X one more", closing("by 2 1;by -1 1;by 0 -2;"), 0);
        Check.due("X one less", closing("by 2 1;by -1 1;by -2 -2;"), 0);
        Check.due("Y one more", closing("by 2 1;by -1 1;by -1 -1;"), 0);
        Check.due("Y one less", closing("by 2 1;by -1 1;by -1 -3;"), 0);
        Check.due("X and Y even out", closing("by 2 1;by -1 1;by 0 -3;"), 0);
        Check.due("the eighth counts", closing("by 1 0;".repeat(7) + "by -7 0;"), 1);
        Check.due("the eighth counts", closing("by 1 0;".repeat(7) + "by -6 0;"), 0);
    }

    private static void mended(String board, String calls, int... due) {
        PegBands x = Check.on(board);
        Check.due("calls '" + calls + "'", Check.calls(x, calls) > 0, true);
        Check.due("how many by '" + calls + "'", x.mended(-1), due.length);
        for (int k = 0; k < due.length; k++) {
            Check.due("mended(" + k + ") by '" + calls + "'", x.mended(k), due[k]);
        }
        Check.due("none behind by '" + calls + "'", x.mended(due.length), -1);
    }

    private static void mended() {
        Check.part("Terms 2, MENDED by one 'by' told otherwise: the band then is not WRONG by 1 to 4");
        // 0: 1 1, 2 0, 2 2. 1: 1 1, 3 1, 2 2. 2: 1 1, 3 1, 3 3.
        mended("board 5 5;", "at 1 1;by 2 0;by 0 2;by -1 -1;", 0, 1, 2);
        // 1: a corner on no peg, off the board and out.
        mended("board 5 5;", "at 1 0;by 2 0;by 0 2;by -1 -1;", 1, 2);
        mended("board 5 5;out 2 2;", "at 1 1;by 2 0;by 0 2;by -1 -1;", 2);
        mended("board 5 5;out 1 1;", "at 1 1;by 2 0;by 0 2;by -1 -1;");
        // 2: two on one peg. The sums are 1 0. 0: 1 1, 1 1. 1: 1 1, 2 1, 1 2. 2: 1 1, 2 1, 2 2.
        mended("board 5 5;", "at 1 1;by 1 0;by 0 1;by 0 -1;", 1, 2);
        // 3: in one line. The sums are 0 1. 0: 0 0, 1 -1. 1: 0 0, 1 0, 2 0. 2: 0 0, 1 0, 2 1.
        mended("board 5 5;", "at 0 0;by 1 0;by 1 1;by -2 0;", 2);
        // 4: knotted. The sums are 0 1. 0: 0 1, 2 2, 2 0, 0 2. 1: 0 1, 2 3, 2 0, 0 2. 2: 0 1, 2 3, 2 1, 0 2. 3: 2 3, 2 1, 0 3.
        mended("board 5 5;", "at 0 1;by 2 2;by 0 -2;by -2 2;by 0 -1;");
        // 5 does not count: without a bell it meets another band.
        mended("board 5 5;band a 0 0 4 0 4 4 0 4;", "at 0 0;by 4 0;by 0 4;by -4 0;by 0 -3;", 1, 2, 3);
        // The sums are 0 18: told by 9 and no more the last one mends; the first and the third would need 18 less.
        mended("board 10 10;", "at 0 0;by 9 0;by 0 9;by -9 0;by 0 9;", 3);
    }
}
