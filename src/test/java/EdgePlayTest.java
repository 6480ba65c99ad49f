import java.util.ArrayList;
import java.util.Arrays;
import java.util.List;
import java.util.Map;
import java.util.TreeMap;

/**
 * The boundaries in part 3 of the document's "Terms" (triangles, cuts, moves, the game, sentences) and in the two rows
 * behind it. Each part names its sentence.
 */
public final class EdgePlayTest {
    private static final String FOUR = "board 10 10;band box 0 0 4 0 4 4 0 4;band tri 1 1 3 1 1 2;"
        + "band other 6 1 8 1 8 2;band arrow 5 5 7 6 9 5 7 9;";

    public static void main(String[] args) {
        trianglesOfPegs();
        trianglesNotInLine();
        trianglesOnAndWithin();
        cutsFromPlaceToPlace();
        cutsInside();
        cutsOfLikeArea();
        cutsTold();
        movedPlaces();
        movedThreeCorners();
        movedToTheNextPeg();
        movedNotInLine();
        movedNeverMindOthers();
        movedWhichever();
        movedFewest();
        gamePegs();
        gameEnds();
        gameNoPlaceBetween();
        gameNoPointInCommon();
        gameLost();
        gameBegins();
        sentenceBytes();
        sentenceGrammar();
        sentenceBinds();
        sentenceSigns();
        sentenceOnes();
        sentenceWithin();
        sentenceFaults();
        saidOfBands();
        toldByName();
        laidHasNone();
        snappedIsNone();
        newBoard();
        throwing();
        Check.finish();
    }

    private static PegBands one(String corners) {
        return Check.on("board 10 10;band a " + corners + ";");
    }

    private static String triangles(PegBands x, int on, int within) {
        StringBuilder s = new StringBuilder();
        int many = x.triangles(on, within, -1);
        for (int k = 0; k < many; k++) {
            s.append(k == 0 ? "" : " ").append(x.triangles(on, within, k));
        }
        Check.due("behind the last triangle", x.triangles(on, within, many), -1);
        return s.toString();
    }

    private static void trianglesOfPegs() {
        Check.part("Terms 3, TRIANGLES: of three PEGS (none out)");
        Check.due("four pegs", triangles(Check.on("board 2 2;"), 3, 0), "110 111 1011 11011");
        Check.due("three pegs", triangles(Check.on("board 2 2;out 1 0;"), 3, 0), "1011");
        Check.due("two pegs", triangles(Check.on("board 2 2;out 1 0;out 0 1;"), 3, 0), "");
        Check.due("no peg", triangles(Check.on("board 2 2;out 0 0;out 1 0;out 0 1;out 1 1;"), 3, 0), "");
        Check.due("the last pegs", triangles(Check.on("board 10 10;"), 27, 28), "990 999 9099 99099");
        // Counted by another program, over all 157252 of them.
        PegBands whole = Check.on("board 10 10;");
        int[][] many = {{3, 0, 5852}, {4, 0, 8376}, {3, 1, 1896}, {11, 0, 396}, {12, 4, 904}, {3, 39, 8}, {3, 38, 8}, {3, 40, 0}};
        for (int[] row : many) {
            Check.due("of " + row[0] + ", " + row[1], whole.triangles(row[0], row[1], -1), row[2]);
        }
    }

    private static void trianglesNotInLine() {
        Check.part("Terms 3, TRIANGLES: not in one line");
        PegBands x = Check.on("board 3 2;out 0 1;out 2 1;");
        // 0, 1 and 2 are in one line; with 11 each pair makes one.
        Check.due("all of 3, 0", triangles(x, 3, 0), "111 10211");
        Check.due("all of 4, 0", triangles(x, 4, 0), "211");
        Check.due("none of 2, 0", triangles(x, 2, 0), "");
        Check.due("none of 0, 1", triangles(x, 0, 1), "");
    }

    private static void trianglesOnAndWithin() {
        Check.part("Terms 3, TRIANGLES with so many ON and WITHIN");
        PegBands whole = Check.on("board 3 3;");
        Check.due("4 on, 1 within", triangles(whole, 4, 1), "221 1220 12022 21022");
        Check.due("3 on, 1 within", triangles(whole, 3, 1), "1221 11022 11220 21021");
        Check.due("5 on, none within", triangles(whole, 5, 0), "");
        Check.due("3 on, 2 within", triangles(whole, 3, 2), "");
        // Places count, also where a peg is out: at 1 0 on the first one, at 1 1 within all.
        PegBands x = Check.on("board 3 3;out 1 0;out 1 1;");
        Check.due("one out on it", triangles(x, 4, 1), "221 1220 21022");
        Check.due("one out within it", triangles(x, 3, 1), "1221 21021");
    }

    private static String cuts(PegBands x) {
        StringBuilder s = new StringBuilder();
        int many = x.cuts(0, -1);
        for (int k = 0; k < many; k++) {
            s.append(k == 0 ? "" : " ").append(x.cuts(0, k));
        }
        Check.due("behind the last cut", x.cuts(0, many), -1);
        return s.toString();
    }

    private static void cuts(String corners, String due) {
        Check.due("cuts of " + corners, cuts(one(corners)), due);
    }

    private static void cutsFromPlaceToPlace() {
        Check.part("Terms 3, CUTS: a straight line from one place ON it to another");
        cuts("0 0 2 0 2 2 0 2", "22 121 220 1210");
        // From 1 0 to 1 2, where pegs are out, as well.
        Check.due("where pegs are out", cuts(Check.on("board 3 3;out 1 0;out 1 2;band a 0 0 2 0 2 2 0 2;")), "22 121 220 1210");
        // Corners alone are on it, and none shares it.
        cuts("0 0 1 0 0 1", "");
        // The whole board: each line through the middle, from 0 0 on to the last place ahead of 9 9.
        PegBands x = one("0 0 9 0 9 9 0 9");
        Check.due("all through the middle", x.cuts(0, -1), 18);
        Check.due("the first", x.cuts(0, 0), 99);
        Check.due("the last", x.cuts(0, 17), 8910);
    }

    private static void cutsInside() {
        Check.part("Terms 3, CUTS: all inside of it but its ends");
        // From 0 3 to 6 3 the line has 12 on either hand, but it lies on the side of the bay between.
        cuts("0 0 2 0 2 3 4 3 4 0 6 0 6 5 0 5", "3254 3353 3452");
        // From 2 2, a corner bent in, to 2 4 it shares evenly; from 2 0 or 2 1 it would lie on a side first.
        PegBands step = one("0 0 2 0 2 2 6 2 6 4 0 4");
        String cuts = " " + cuts(step) + " ";
        Check.due("from the corner bent in", cuts.contains(" 2242 "), true);
        Check.due("along a side", cuts.contains(" 242 ") || cuts.contains(" 1242 "), false);
        // The line from 4 0 to 4 8 has 24 on either hand, but it touches the corner at 4 4.
        String touched = " " + cuts(one("1 0 8 0 8 2 4 4 8 6 8 8 1 8")) + " ";
        Check.due("touching a corner", touched.contains(" 484 "), false);
        String[] shapes = {"0 0 2 0 2 3 4 3 4 0 6 0 6 5 0 5", "0 0 2 0 2 2 6 2 6 4 0 4", "1 0 8 0 8 2 4 4 8 6 8 8 1 8",
            "0 0 2 1 4 0 2 4", "0 0 0 4 4 4 4 2 2 2 2 0", "0 0 4 0 4 3 0 3 0 2 3 2 3 1 0 1"};
        for (String shape : shapes) {
            everyWay(shape);
        }
        // The same without a bay is shared by such a line.
        String free = " " + cuts(one("0 0 8 0 8 8 0 8")) + " ";
        Check.due("touching none", free.contains(" 484 "), true);
        // Slim ones in the last rows: a little above or below its middle the line would be outside.
        cuts("0 8 2 8 2 9 0 9", "8092 8191 8290");
        cuts("1 8 1 9 3 9", "8192");
        // A side is no cut, and neither is a line outside of it from tip to tip.
        cuts("0 0 2 1 4 0 2 4", "1242");
    }

    /** A band's cuts are the same lines, whatever corner it is told from, either way round, and wherever it lies. */
    private static void everyWay(String corners) {
        String[] n = corners.split(" ");
        int many = n.length / 2;
        int right = 0;
        int low = 0;
        for (int i = 0; i < many; i++) {
            right = Math.max(right, Integer.parseInt(n[2 * i]));
            low = Math.max(low, Integer.parseInt(n[2 * i + 1]));
        }
        String due = sorted(one(corners), 0);
        for (int first = 0; first < 4 * many; first++) {
            boolean isFar = first % 2 == 1;
            int way = first / 2 % 2 == 0 ? 1 : many - 1;
            StringBuilder s = new StringBuilder();
            for (int i = 0; i < many; i++) {
                int c = (first / 4 + way * i) % many;
                s.append(i == 0 ? "" : " ").append(Integer.parseInt(n[2 * c]) + (isFar ? 9 - right : 0));
                s.append(' ').append(Integer.parseInt(n[2 * c + 1]) + (isFar ? 9 - low : 0));
            }
            Check.due("lines of " + s, sorted(one(s.toString()), isFar ? 10 * (9 - low) + 9 - right : 0), due);
        }
    }

    /** The cuts as lines, each from its lesser peg number, slid back by so much, rising. */
    private static String sorted(PegBands x, int slid) {
        int[] lines = new int[x.cuts(0, -1)];
        for (int k = 0; k < lines.length; k++) {
            int a = x.cuts(0, k) / 100 - slid;
            int b = x.cuts(0, k) % 100 - slid;
            lines[k] = 100 * Math.min(a, b) + Math.max(a, b);
        }
        Arrays.sort(lines);
        return Arrays.toString(lines);
    }

    private static void cutsOfLikeArea() {
        Check.part("Terms 3, CUTS: parts it in two of like AREA");
        // AREA 2: two halves of 1.
        cuts("0 0 2 0 0 1", "110");
        cuts("0 0 1 0 1 1 0 1", "11 110");
        // AREA 1 and 3 can't be shared evenly by lines between places.
        cuts("0 0 1 0 0 1", "");
        cuts("0 0 3 0 0 1", "");
        // An L of AREA 24, told both ways round.
        cuts("0 0 0 4 4 4 4 2 2 2 2 0", "43 1044 2034 3024 4022 4102 4201");
        cuts("0 0 2 0 2 2 4 2 4 4 0 4", "43 142 241 2240 2430 3420 4410");
    }

    private static void cutsTold() {
        Check.part("Terms 3, CUTS: the one first that comes first along the band from corner 0 on");
        cuts("2 0 2 2 0 2 0 0", "220 1210 2200 2101");
        cuts("2 2 0 2 0 0 2 0", "2200 2101 2002 1012");
        cuts("0 2 0 0 2 0 2 2", "2002 1012 22 121");
        cuts("0 0 0 2 2 2 2 0", "22 1012 2002 2101");
    }

    private static int moved(String text, int a, int b) {
        return Check.on(text).moved(a, b);
    }

    private static void movedPlaces() {
        Check.part("Terms 3, MOVED: on a BOARD of 36 places at most");
        String two = "bell;band a 0 0 1 0 0 1;band b 1 0 2 0 1 1;";
        String[] small = {"6 6", "9 4", "4 9", "3 2", "7 5", "3 10", "10 3"};
        for (String size : small) {
            Check.due("board " + size, moved("board " + size + ";" + two, 0, 1), 3);
        }
        String[] large = {"10 4", "4 10", "8 5", "5 8", "6 7", "7 6", "10 10"};
        for (String size : large) {
            Check.due("board " + size, moved("board " + size + ";" + two, 0, 1), -1);
            Check.due("board " + size, moved("board " + size + ";" + two, 0, 0), -1);
        }
        // Places count, not pegs: 40 less 12.
        Check.due("28 pegs on 40 places", moved("board 10 4;out 9 0;out 9 1;out 9 2;out 9 3;out 8 0;out 8 1;out 8 2;out 8 3;"
            + "out 7 0;out 7 1;out 7 2;out 7 3;" + two, 0, 1), -1);
    }

    private static void movedThreeCorners() {
        Check.part("Terms 3, MOVED: a BAND of three corners to another one");
        String text = "board 4 4;bell;band a 0 0 1 0 0 1;band b 0 0 1 0 1 1 0 1;band c 0 0 1 0 1 1;";
        Check.due("three to three", moved(text, 0, 2), 1);
        Check.due("three to four", moved(text, 0, 1), -1);
        Check.due("four to three", moved(text, 1, 0), -1);
        Check.due("four to four", moved(text, 1, 1), -1);
    }

    private static void movedToTheNextPeg() {
        Check.part("Terms 3, MOVED: one corner goes to the next PEG in its row or column");
        // From 0 1 to 1 1: one move in its row; from 1 0 to 1 1: one move in its column; aslant: two.
        Check.due("in its row", moved("board 3 3;bell;band a 0 0 1 0 0 1;band b 0 0 1 0 1 1;", 0, 1), 1);
        Check.due("in its column", moved("board 3 3;bell;band a 0 0 1 0 0 1;band b 0 0 1 1 0 1;", 0, 1), 1);
        Check.due("two of them", moved("board 3 3;bell;band a 0 0 1 0 0 1;band b 0 0 2 1 0 1;", 0, 1), 2);
        // At the edges of a row nothing goes on to the next one: 2 0 is not beside 0 1.
        Check.due("no way round the edge", moved("board 3 2;bell;band a 0 0 2 0 1 1;band b 0 0 0 1 1 1;", 0, 1), 3);
        // Through a place whose peg is out no corner goes.
        Check.due("one out between", moved("board 4 2;out 1 0;out 2 1;bell;band a 0 0 0 1 1 1;band b 2 0 3 0 3 1;", 0, 1), -1);
        Check.due("parted", moved("board 5 2;out 2 0;out 2 1;band a 0 0 1 0 0 1;band b 3 0 4 0 3 1;", 0, 1), -1);
        Check.due("a way round", moved("board 5 3;out 2 0;out 2 1;band a 0 0 1 0 0 1;band b 3 0 4 0 3 1;", 0, 1) > 9, true);
        // A larger board ahead of it leaves no pegs behind.
        PegBands x = Check.on("board 6 6;band a 0 0 1 0 0 1;band b 3 0 4 0 3 1;");
        Check.due("on a larger one", x.moved(0, 1), 9);
        Check.due("a smaller one", Check.board(x, "board 5 2;out 2 0;out 2 1;band a 0 0 1 0 0 1;band b 3 0 4 0 3 1;"), 5);
        Check.due("parted", x.moved(0, 1), -1);
        Check.due("one of as many places", Check.board(x, "board 9 4;band a 0 0 1 0 0 1;band b 8 3 7 3 8 2;"), 3);
        Check.due("across it", x.moved(0, 1) > 0, true);
    }

    private static void movedNotInLine() {
        Check.part("Terms 3, MOVED: the three not in one line");
        Check.due("beside", moved("board 2 2;bell;band a 0 0 1 0 0 1;band b 0 0 1 0 1 1;", 0, 1), 1);
        Check.due("across", moved("board 2 2;bell;band a 0 0 1 0 0 1;band b 1 0 0 1 1 1;", 0, 1), 2);
        // 1 0 can't go straight down through the line of the two others: 0 1 and 2 1.
        String over = "board 3 3;bell;band a 0 1 2 1 1 0;band b 0 1 2 1 1 2;";
        Check.due("over the line of two", moved(over, 0, 1), 4);
        // With four pegs about one all go through that one: 0 1 over it to 1 2, and then 1 0 over it to 0 1.
        Check.due("over one peg", moved("board 3 3;out 0 0;out 2 0;out 0 2;out 2 2;bell;band a 0 1 2 1 1 0;band b 0 1 2 1 1 2;", 0, 1), 4);
        // 0 1 can't come to 1 1 while a corner is there: that one goes on to 2 1 first.
        Check.due("never two on one peg", moved("board 3 2;out 0 0;out 2 0;bell;band a 1 0 0 1 1 1;band b 1 0 1 1 2 1;", 0, 1), 2);
    }

    private static void movedNeverMindOthers() {
        Check.part("Terms 3, MOVED: never mind other BANDS");
        String alone = "board 6 3;band a 0 0 1 0 0 1;band b 4 0 5 0 4 1;";
        String between = "board 6 3;band a 0 0 1 0 0 1;band b 4 0 5 0 4 1;band m 2 0 3 0 3 2 2 2;";
        Check.due("alone", moved(alone, 0, 1), 12);
        Check.due("another one between", moved(between, 0, 1), 12);
    }

    private static void movedWhichever() {
        Check.part("Terms 3, MOVED: to the corners of the other one, whichever to whichever");
        String[] orders = {"0 0 1 0 0 1", "0 0 0 1 1 0", "1 0 0 0 0 1", "1 0 0 1 0 0", "0 1 0 0 1 0", "0 1 1 0 0 0"};
        for (String order : orders) {
            Check.due("to " + order, moved("board 6 6;bell;band a 0 0 1 0 0 1;band b " + order + ";", 0, 1), 0);
        }
        Check.due("the nearest ones", moved("board 6 6;bell;band a 0 0 5 0 0 5;band b 5 0 0 4 0 0;", 0, 1), 1);
        Check.due("itself", moved("board 6 6;band a 0 0 5 0 0 5;", 0, 0), 0);
    }

    private static void movedFewest() {
        Check.part("Terms 3, MOVED: the fewest moves");
        fewest(3, 3, "");
        fewest(4, 3, "out 1 1;out 3 0;");
        fewest(2, 5, "out 0 2;");
    }

    /** From the first triangle of a board to each other one, counted move by move. */
    private static void fewest(int w, int h, String outs) {
        PegBands x = Check.on("board " + w + " " + h + ";" + outs);
        boolean[] pegs = new boolean[100];
        for (int at = 0; at < 100; at++) {
            pegs[at] = x.peg(at) == 1;
        }
        List<String> edge = new ArrayList<>();
        Map<String, Integer> seen = new TreeMap<>();
        String first = null;
        for (int code = 0; code < 1000000; code++) {
            String three = three(pegs, code / 10000, code / 100 % 100, code % 100);
            if (three != null && first == null) {
                first = three;
                edge.add(three);
                seen.put(three, 0);
            }
            if (three != null && !seen.containsKey(three)) {
                seen.put(three, -1);
            }
        }
        for (int moves = 1; !edge.isEmpty(); moves++) {
            List<String> next = new ArrayList<>();
            for (String from : edge) {
                for (String to : beside(pegs, from)) {
                    if (seen.get(to) == -1) {
                        seen.put(to, moves);
                        next.add(to);
                    }
                }
            }
            edge = next;
        }
        Check.due("there are triangles on " + w + " " + h, seen.size() > 20, true);
        for (String to : seen.keySet()) {
            String text = "board " + w + " " + h + ";" + outs + "bell;band a " + told(first) + ";band b " + told(to) + ";";
            Check.due("from " + first + " to " + to, moved(text, 0, 1), seen.get(to));
            Check.due("from " + to + " to " + first, moved(text, 1, 0), seen.get(to));
        }
    }

    /** Three pegs as they rise, as a text, if they are pegs and not in one line. */
    private static String three(boolean[] pegs, int a, int b, int c) {
        int low = Math.min(a, Math.min(b, c));
        int high = Math.max(a, Math.max(b, c));
        int middle = a + b + c - low - high;
        boolean inLine = (middle % 10 - low % 10) * (high / 10 - low / 10) == (middle / 10 - low / 10) * (high % 10 - low % 10);
        boolean arePegs = low >= 0 && high < 100 && pegs[low] && pegs[middle] && pegs[high];
        return inLine || !arePegs ? null : low + " " + middle + " " + high;
    }

    private static List<String> beside(boolean[] pegs, String three) {
        List<String> found = new ArrayList<>();
        for (int i = 0; i < 12; i++) {
            String[] s = three.split(" ");
            int[] p = {Integer.parseInt(s[0]), Integer.parseInt(s[1]), Integer.parseInt(s[2])};
            int at = p[i % 3];
            boolean isOverEdge = i / 3 == 0 && at % 10 == 0 || i / 3 == 1 && at % 10 == 9;
            p[i % 3] = at + new int[] {-1, 1, -10, 10}[i / 3];
            String next = isOverEdge ? null : three(pegs, p[0], p[1], p[2]);
            if (next != null) {
                found.add(next);
            }
        }
        return found;
    }

    /** Peg numbers as X Y X Y X Y. */
    private static String told(String pegs) {
        StringBuilder s = new StringBuilder();
        for (String peg : pegs.split(" ")) {
            int at = Integer.parseInt(peg);
            s.append(s.length() == 0 ? "" : " ").append(at % 10).append(' ').append(at / 10);
        }
        return s.toString();
    }

    private static void gamePegs() {
        Check.part("Terms 3, the GAME on a BOARD of 9 PEGS at most (those out left out)");
        Check.due("9 pegs", Check.on("board 3 3;").lines(-1), 28);
        Check.due("10 pegs", Check.on("board 5 2;").lines(-1), -1);
        Check.due("10 pegs of 12", Check.on("board 4 3;out 0 0;out 3 2;").lines(-1), -1);
        Check.due("9 pegs of 12", Check.on("board 4 3;out 0 0;out 3 2;out 0 2;").lines(-1) > 0, true);
        String twelve = "out 0 0;out 1 0;out 2 0;out 3 0;out 4 0;out 5 0;out 6 0;out 0 2;out 1 2;out 2 2;out 3 2;";
        Check.due("10 pegs of 21", Check.on("board 7 3;" + twelve).lines(-1), -1);
        PegBands x = Check.on("board 7 3;" + twelve + "out 4 2;");
        Check.due("9 pegs of 21", x.lines(-1) > 0, true);
        Check.due("line", x.line(10, 11), true);
        // Far down the board: eight pegs in the last four rows of ten.
        PegBands far = Check.on("board 2 10;out 0 0;out 1 0;out 0 1;out 1 1;out 0 2;out 1 2;out 0 3;out 1 3;out 0 4;out 1 4;out 0 5;out 1 5;");
        Check.due("8 pegs of 20", far.lines(-1), 22);
        Check.due("the last line", far.lines(21), 9091);
        Check.due("crossed by none", far.line(90, 81), true);
        Check.due("it lies", far.line(80, 91), false);
        Check.due("it lies", far.line(80, 90), false);
        Check.due("above it", far.line(80, 71), true);
        Check.due("the third", far.line(61, 70), true);
        Check.due("beside it", far.lines(-1), 0);
    }

    private static void gameEnds() {
        Check.part("Terms 3, a LINE: none of both is an end of a LINE yet");
        PegBands x = Check.on("board 3 3;");
        Check.due("lay", x.line(0, 1), true);
        int[][] no = {{0, 1}, {1, 0}, {0, 10}, {10, 0}, {1, 2}, {2, 1}, {1, 11}, {0, 11}};
        for (int[] pair : no) {
            Check.due("line(" + pair[0] + ", " + pair[1] + ")", x.line(pair[0], pair[1]), false);
        }
        Check.due("one line lies", x.count(6), 1);
        Check.due("beside it", x.line(10, 11), true);
        Check.due("two lie", x.count(6), 2);
        Check.due("from one peg to another", x.line(22, 22), false);
    }

    private static void gameNoPlaceBetween() {
        Check.part("Terms 3, a LINE: no other place is on it between");
        PegBands x = Check.on("board 3 3;out 1 1;out 1 0;");
        Check.due("over a peg", x.line(20, 22), false);
        Check.due("over a peg that is out", x.line(0, 2), false);
        Check.due("aslant over a peg that is out", x.line(0, 22), false);
        Check.due("aslant over a peg that is out", x.line(2, 20), false);
        Check.due("no place between", x.line(0, 21), true);
    }

    private static void gameNoPointInCommon() {
        Check.part("Terms 3, a LINE: it has no point in common with a LINE that lies");
        PegBands x = Check.on("board 3 3;");
        Check.due("lay", x.line(0, 11), true);
        Check.due("crosses it", x.line(1, 10), false);
        Check.due("crosses it", x.line(10, 2), false);
        Check.due("touches none", x.line(1, 12), true);
        Check.due("crosses the second", x.line(2, 21), false);
        Check.due("crosses neither", x.line(10, 21), true);
        Check.due("between them", x.line(2, 22), false);
        Check.due("as long as it is free", x.line(22, 20), false);
    }

    private static void gameLost() {
        Check.part("Terms 3, the GAME: who can lay none has lost");
        PegBands x = Check.on("board 2 2;out 1 1;");
        Check.due("any line wins", x.wins(), 1);
        Check.due("lay", x.line(0, 1), true);
        Check.due("none can be laid", x.lines(-1), 0);
        Check.due("by none", x.wins(), -1);
        // Played to the end by another program.
        String[] boards = {"3 3", "2 4", "5 2;out 4 1", "5 2;out 2 0", "3 3;out 1 1", "3 3;out 0 0", "3 3;out 1 0",
            "4 3;out 0 0;out 3 0;out 0 2", "4 3;out 0 0;out 3 2;out 0 2", "4 3;out 0 0;out 1 1;out 2 1",
            "2 10;out 0 0;out 1 0;out 0 1;out 1 1;out 0 2;out 1 2;out 0 3;out 1 3;out 0 4;out 1 4;out 0 5;out 1 5"};
        int[] wins = {-1, 11, -1, -1, -1, 112, 12, 223, 210, 213, 6071};
        for (int i = 0; i < boards.length; i++) {
            Check.due("board " + boards[i], Check.on("board " + boards[i] + ";").wins(), wins[i]);
        }
        PegBands one = Check.on("board 2 2;out 1 1;out 0 1;out 1 0;");
        Check.due("one peg", one.lines(-1), 0);
        Check.due("one peg, by none", one.wins(), -1);
    }

    private static void gameBegins() {
        Check.part("Terms 3, the GAME begins without LINES");
        PegBands x = Check.on("board 2 2;");
        Check.due("no lines lie", x.count(6), 0);
        Check.due("lay", x.line(0, 1), true);
        Check.due("a new board", Check.board(x, "board 2 2;"), 1);
        Check.due("no lines lie", x.count(6), 0);
        Check.due("all can be laid", x.lines(-1), 6);
    }

    /** How many ones, and of which bands it is said, as digits. */
    private static void said(PegBands x, String text, int ones, String due) {
        Check.due("sentence '" + text + "'", Check.sentence(x, text), ones);
        Check.due("fault of '" + text + "'", x.fault(), 0);
        Check.due("said: " + text, saidNow(x), due);
    }

    private static String saidNow(PegBands x) {
        StringBuilder s = new StringBuilder();
        int many = x.said(-1);
        for (int k = 0; k < many; k++) {
            s.append(x.said(k));
        }
        Check.due("behind the last", x.said(Math.max(0, many)), -1);
        return s.toString();
    }

    /** A sentence with a fault at a place: all that was there stays. */
    private static void bad(String text, int place, int kind) {
        PegBands x = new PegBands();
        PegBands y = new PegBands();
        Check.makeRich(x);
        Check.makeRich(y);
        Check.due("sentence '" + text + "'", Check.sentence(x, text), -1 - place);
        Check.due("fault of '" + text + "'", x.fault(), kind);
        Check.due("tape behind '" + text + "'", x.count(7), 0);
        Check.due("what stays behind '" + text + "'", Check.rest(x), Check.rest(y));
    }

    private static void sentenceBytes() {
        Check.part("Terms 3, a SENTENCE is a text of at most 200 bytes");
        PegBands x = Check.on(FOUR);
        said(x, "bent" + Check.blanks(196), 1, "3");
        said(x, Check.blanks(196) + "bent", 1, "3");
        said(x, "bent" + Check.blanks(189) + "or bent", 2, "3");
        bad("bent" + Check.blanks(190) + "or bent", 200, 1);
        bad("bent" + Check.blanks(197), 200, 1);
        bad(Check.blanks(197) + "bent", 200, 1);
        bad("bent" + Check.blanks(196) + "?", 200, 1);
        bad("bent" + Check.blanks(195) + "?" + Check.blanks(10), 199, 1);
        bad("bent" + Check.blanks(600), 200, 1);
        bad("bent or" + Check.blanks(193), 200, 1);
        bad("bent or" + Check.blanks(194), 200, 1);
        // Tokens that begin ahead of byte 200 are read whole.
        bad("bent" + Check.blanks(195) + "orbent", 199, 1);
        bad("bent" + Check.blanks(196) + "orbent", 200, 1);
        bad("in" + Check.blanks(197) + "nobody", 199, 3);
        bad("in" + Check.blanks(198) + "nobody", 200, 1);
        bad("bent " + "or bent ".repeat(19) + Check.blanks(39) + "or bent", 199, 4);
        bad("bent " + "or bent ".repeat(19) + Check.blanks(40) + "or bent", 200, 1);
    }

    private static void sentenceGrammar() {
        Check.part("Terms 3, COND, ALL, ONE");
        PegBands x = Check.on(FOUR);
        said(x, "in box", 1, "1");
        said(x, "alike tri", 1, "12");
        said(x, "bent", 1, "3");
        said(x, "(bent)", 2, "3");
        said(x, "not bent", 2, "012");
        bad("", 0, 1);
        bad("   ", 3, 1);
        bad("()", 1, 1);
        bad("(bent", 5, 1);
        bad("bent)", 4, 1);
        bad("not", 3, 1);
        bad("not not", 7, 1);
        bad("not or bent", 4, 1);
        bad("or", 0, 1);
        bad("and bent", 0, 1);
        bad("bent or", 7, 1);
        bad("bent and", 8, 1);
        bad("bent or or bent", 8, 1);
        bad("bent bent", 5, 1);
        bad("bent not bent", 5, 1);
        bad("bent (bent)", 5, 1);
        bad("(bent) bent", 7, 1);
        bad("bent;", 4, 1);
        bad("a", 0, 1);
        bad("5", 0, 1);
        bad("in", 2, 1);
        bad("in (a)", 3, 1);
        bad("in 5", 3, 1);
        bad("alike", 5, 1);
        bad("in a a", 5, 1);
        bad("board", 0, 1);
        bad("by", 0, 1);
    }

    private static void sentenceBinds() {
        Check.part("Terms 3, COND: ALL { 'or' ALL }, ALL: ONE { 'and' ONE }, 'not' ONE");
        PegBands x = Check.on(FOUR);
        // 'and' binds closer than 'or', 'not' closer than both.
        said(x, "bent or corners=3 and in box", 3, "13");
        said(x, "in box and corners=3 or bent", 3, "13");
        said(x, "(bent or corners=3) and in box", 4, "1");
        said(x, "not bent and in box", 3, "1");
        said(x, "not in box or in box", 3, "0123");
        said(x, "not (in box or bent)", 4, "02");
        said(x, "bent and bent or bent and in box or in box and area=2", 6, "13");
    }

    private static void sentenceSigns() {
        Check.part("Terms 3, ( 'area' | 'on' | 'within' | 'corners' | 'right' ) SIGN NUMBER, SIGN: < = >");
        PegBands x = Check.on(FOUR);
        String[] words = {"area", "on", "within", "corners", "right"};
        int[][] is = {{32, 2, 2, 12}, {16, 4, 4, 6}, {9, 0, 0, 4}, {4, 3, 3, 4}, {4, 1, 1, 0}};
        for (int w = 0; w < words.length; w++) {
            for (int b = 0; b < 4; b++) {
                for (int n = Math.max(0, is[w][b] - 1); n <= is[w][b] + 1; n++) {
                    said(x, words[w] + "<" + n, 1, those(is[w], '<', n));
                    said(x, words[w] + "=" + n, 1, those(is[w], '=', n));
                    said(x, words[w] + ">" + n, 1, those(is[w], '>', n));
                }
                // An object is used for 512 calls at most.
                x = Check.on(FOUR);
            }
            bad(words[w], words[w].length(), 1);
            bad(words[w] + "5", 0, 1);
            bad(words[w] + " 5", words[w].length() + 1, 1);
            bad(words[w] + "=", words[w].length() + 1, 1);
            bad(words[w] + "=-1", words[w].length() + 1, 1);
            bad(words[w] + "==1", words[w].length() + 1, 1);
            bad(words[w] + "=1000", words[w].length() + 1, 1);
            bad(words[w] + "=a", words[w].length() + 1, 1);
            bad(words[w] + "-1", words[w].length(), 1);
            bad(words[w] + ";1", words[w].length(), 1);
            bad(words[w] + "?1", words[w].length(), 1);
        }
        said(x, "area<999", 1, "0123");
        said(x, "area>000", 1, "0123");
        said(x, "area>999", 1, "");
        bad("bent=1", 4, 1);
    }

    private static String those(int[] is, char sign, int n) {
        StringBuilder s = new StringBuilder();
        for (int b = 0; b < is.length; b++) {
            boolean fits = sign == '<' ? is[b] < n : sign == '=' ? is[b] == n : is[b] > n;
            s.append(fits ? "" + b : "");
        }
        return s.toString();
    }

    private static void sentenceOnes() {
        Check.part("Terms 3, 20 ONES; FAULT 4 a 21st ONE (at its first TOKEN)");
        PegBands x = Check.on(FOUR);
        said(x, "bent" + " or bent".repeat(19), 20, "3");
        said(x, "bent" + " and bent".repeat(19), 20, "3");
        // Each counts, the last one too.
        said(x, "on<1 or ".repeat(19) + "bent", 20, "3");
        said(x, "bent or " + "on<1 or ".repeat(18) + "on<1", 20, "3");
        said(x, "on>1 and ".repeat(19) + "bent", 20, "3");
        said(x, "on>1 and ".repeat(19) + "on<1", 20, "");
        said(x, "not bent" + " or not bent".repeat(9), 20, "012");
        said(x, "(bent)" + " or (bent)".repeat(9), 20, "3");
        bad("bent" + " or bent".repeat(20), 160, 4);
        bad("bent" + " or bent".repeat(19) + " or not", 160, 4);
        bad("bent" + " or bent".repeat(19) + " or (", 160, 4);
        bad("bent" + " or bent".repeat(19) + " or in nobody", 160, 4);
        bad("bent" + " or bent".repeat(19) + " or area", 160, 4);
        bad("bent" + " or bent".repeat(19) + " or nobody", 160, 1);
        bad("bent" + " or bent".repeat(19) + " or", 159, 1);
        bad("bent" + " or bent".repeat(18) + " or not bent", 156, 4);
        bad("bent" + " or bent".repeat(18) + " or (bent)", 153, 4);
        // The hindmost joins are told from the innermost on.
        said(x, "in box or(bent and(bent or(bent and(bent or(bent and bent)))))", 12, "13");
    }

    private static void sentenceWithin() {
        Check.part("Terms 3, 8 within one another; FAULT 4 a ninth within (at its first TOKEN)");
        PegBands x = Check.on(FOUR);
        said(x, "not ".repeat(7) + "bent", 8, "012");
        said(x, "(".repeat(7) + "bent" + ")".repeat(7), 8, "3");
        said(x, "(not(not(not bent)))", 7, "012");
        bad("not ".repeat(8) + "bent", 32, 4);
        bad("(".repeat(8) + "bent" + ")".repeat(8), 8, 4);
        bad("not ".repeat(8) + "not bent", 32, 4);
        bad("not ".repeat(8) + "(bent)", 32, 4);
        bad("not ".repeat(8) + "in nobody", 32, 4);
        bad("not ".repeat(8) + "nobody", 32, 1);
        bad("not ".repeat(8), 32, 1);
        // Within one another are the seven brackets and each of the two in them.
        said(x, "(".repeat(7) + "bent or in box" + ")".repeat(7), 9, "13");
        bad("(".repeat(7) + "bent or (bent)" + ")".repeat(7), 16, 4);
        // Behind them others begin anew.
        said(x, "not ".repeat(7) + "bent or " + "not ".repeat(7) + "bent", 16, "012");
    }

    private static void sentenceFaults() {
        Check.part("Terms 3, FAULTS of a SENTENCE: 1, 3 (no such BAND)");
        bad("in nobody", 3, 3);
        bad("alike  nobody", 7, 3);
        bad("bent and not in b or bent bent", 16, 3);
        bad("in aa", 3, 3);
        bad("in somebody", 3, 1);
        bad("in bent", 3, 1);
        bad("alike board", 6, 1);
        bad("in a1", 3, 1);
        PegBands x = new PegBands();
        Check.due("no board, no band", Check.sentence(x, "in a"), -4);
        Check.due("fault", x.fault(), 3);
        Check.due("no sentence then", x.said(-1), -1);
    }

    private static void saidOfBands() {
        Check.part("Terms 3, a SENTENCE is said of BANDS");
        PegBands none = Check.on("board 5 5;");
        said(none, "not bent", 2, "");
        StringBuilder s = new StringBuilder("board 10 10;bell;");
        for (int i = 0; i < 8; i++) {
            s.append("band ").append((char) ('a' + i)).append(" 0 0 1 0 0 ").append(i + 1).append(';');
        }
        PegBands eight = Check.on(s.toString());
        said(eight, "not bent", 2, "01234567");
        said(eight, "alike h", 1, "7");
        said(eight, "area>7", 1, "7");
        said(eight, "area<2", 1, "0");
    }

    private static void toldByName() {
        Check.part("Terms, in a SENTENCE a BAND is told by its NAME");
        PegBands x = Check.on("board 9 9;band a 0 0 8 0 8 8 0 8;band aa 1 1 4 1 4 4 1 4;band abcdefg 2 2 3 2 2 3;");
        said(x, "in a", 1, "12");
        said(x, "in aa", 1, "2");
        said(x, "alike abcdefg", 1, "2");
        // A name goes with its band, whatever its number.
        Check.due("snap", x.snap(0), 65);
        Check.due("said of others", saidNow(x), "1");
        said(x, "in aa", 1, "1");
        Check.due("slide", x.slide(1, 0, 0), 0);
        Check.due("it is told still", saidNow(x), "1");
    }

    private static void laidHasNone() {
        Check.part("Terms, a BAND that is laid by CALLS has no NAME");
        PegBands x = Check.on("board 6 6;band a 0 0 5 0 5 5 0 5;");
        Check.due("calls", Check.calls(x, "at 1 1;by 1 0;by 0 1;by -1 -1;"), 3);
        Check.due("lay", x.lay(), 0);
        // It is told by none, but things are said of it.
        said(x, "in a", 1, "1");
        said(x, "alike a", 1, "0");
        // A name that was never told is not its name.
        Check.due("no such band", Check.sentence(x, "alike nobody"), -7);
        Check.due("fault", x.fault(), 3);
        Check.due("no such band", Check.sentence(x, "in b"), -4);
        Check.due("fault", x.fault(), 3);
        Check.due("snap the one with a name", x.snap(0), 33);
        Check.due("said of none", saidNow(x), "");
        Check.due("its number is 0 now, and a is no name of it", Check.sentence(x, "alike a"), -7);
        Check.due("fault", x.fault(), 3);
    }

    private static void snappedIsNone() {
        Check.part("Terms, one that snapped is none any more; a SENTENCE that names it is said of none by that ONE");
        PegBands x = Check.on(FOUR);
        said(x, "in box or bent", 2, "13");
        Check.due("snap", x.snap(0), 21);
        Check.due("by the other ONE alone", saidNow(x), "2");
        Check.due("named anew", Check.sentence(x, "in box"), -4);
        Check.due("fault", x.fault(), 3);
        Check.due("the sentence stays", saidNow(x), "2");
        Check.due("undo", x.undo(), 0);
        Check.due("it is one again", saidNow(x), "13");
        said(x, "not in box", 2, "023");
        Check.due("snap", x.snap(0), 21);
        Check.due("not by that ONE", saidNow(x), "012");
        PegBands y = Check.on(FOUR);
        said(y, "alike tri", 1, "12");
        Check.due("snap", y.snap(1), 0);
        Check.due("not even of one that is alike", saidNow(y), "");
    }

    private static void newBoard() {
        Check.part("Terms, a new BOARD: no CALLS, no LINES, no SENTENCE");
        PegBands x = new PegBands();
        Check.makeRich(x);
        Check.due("a new board", Check.board(x, "board 3 3;out 2 2;band a 0 0 1 0 0 1;"), 3);
        Check.due("no calls", x.count(5), 0);
        Check.due("no calls", x.closes(), -1);
        Check.due("no calls", x.mended(-1), -1);
        Check.due("no calls", x.lay(), -1);
        Check.due("no lines", x.count(6), 0);
        Check.due("no sentence", x.said(-1), -1);
        Check.due("nothing of the old one can be undone", x.undo(), -1);
        Check.due("the bands are those told", Check.bands(x), "0 1 10;");
        Check.due("images stay", x.restore(1), true);
        Check.due("the sentence is back", x.said(-1), 1);
    }

    private static void throwing() {
        Check.part("Terms, a call that throws changes nothing");
        int[][] no = {{1, 0}, {-1, 0}, {0, 7}, {0, -1}, {8, 8}, {Check.LEAST, Check.MOST}, {Check.MOST, Check.LEAST}};
        for (int[] pair : no) {
            Check.changesNothing("band(" + pair[0] + ", " + pair[1] + ")", EdgePlayTest::richWithTape,
                x -> Check.due("throws", Check.throwsNoSuch(x, pair[0], pair[1]), true));
        }
    }

    private static void richWithTape(PegBands x) {
        Check.makeRich(x);
        Check.due("a fault", Check.board(x, "board 5 5;band a 0 0 1 0 2 0;"), -29);
        Check.tell(x, "bent or in nobody");
    }
}
