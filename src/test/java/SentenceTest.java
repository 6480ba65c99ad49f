/** Promises 39 and 40: what may be said of which band. */
public final class SentenceTest {
    private static final int LEAST = Integer.MIN_VALUE;
    private static final int MOST = Integer.MAX_VALUE;
    /** A big box, a small triangle in it, the same turned over beside it, an arrow. */
    private static final String FOUR = "board 10 10;band box 0 0 4 0 4 4 0 4;band tri 1 1 3 1 1 2;"
        + "band other 6 1 8 1 8 2;band arrow 5 5 7 6 9 5 7 9;";

    public static void main(String[] args) {
        ones();
        joined();
        faults();
        bounds();
        tooLong();
        snapped();
        withoutBoard();
        Check.finish();
    }

    /** How many ones, and of which bands it is said, as digits. */
    private static void said(PegBands x, String text, int ones, String due) {
        Check.due("sentence '" + text + "'", Check.sentence(x, text), ones);
        Check.due("fault of '" + text + "'", x.fault(), 0);
        nowSaid(x, text, due);
    }

    private static void nowSaid(PegBands x, String text, String due) {
        Check.due("said of how many: " + text, x.said(-1), due.length());
        for (int k = 0; k < due.length(); k++) {
            Check.due("said(" + k + "): " + text, x.said(k), due.charAt(k) - '0');
        }
        Check.due("said behind: " + text, x.said(due.length()), -1);
        Check.due("said(-2): " + text, x.said(-2), -1);
        Check.due("said(least): " + text, x.said(LEAST), -1);
        Check.due("said(most): " + text, x.said(MOST), -1);
    }

    private static void ones() {
        PegBands x = Check.on(FOUR);
        Check.due("no sentence", x.said(-1), -1);
        Check.due("no sentence", x.said(0), -1);
        said(x, "in box", 1, "1");
        said(x, "in tri", 1, "");
        said(x, "alike tri", 1, "12");
        said(x, "alike box", 1, "0");
        said(x, "bent", 1, "3");
        said(x, "area=2", 1, "12");
        said(x, "area<13", 1, "123");
        said(x, "area > 12", 1, "0");
        said(x, "area\n>\n011", 1, "03");
        said(x, "on=16", 1, "0");
        said(x, "on<5", 1, "12");
        said(x, "within>3", 1, "03");
        said(x, "within = 0", 1, "12");
        said(x, "corners=3", 1, "12");
        said(x, "corners>3", 1, "03");
        said(x, "right=1", 1, "12");
        said(x, "right=0", 1, "3");
        said(x, "right>3", 1, "0");
        said(x, "area<999", 1, "0123");
        PegBands y = Check.on("board 10 10;bell;band a 0 0 9 0 0 9;band b 0 0 9 0 0 8;band c 0 0 9 0 0 7;"
            + "band d 0 0 9 0 0 6;band e 0 0 9 0 0 5;band f 0 0 9 0 0 4;band g 0 0 9 0 0 3;band h 0 0 9 0 0 2;");
        for (int b = 0; b < 8; b++) {
            said(y, "alike " + (char) ('a' + b), 1, "" + b);
        }
        said(x, "area=0", 1, "");
    }

    private static void joined() {
        PegBands x = Check.on(FOUR);
        said(x, "not bent", 2, "012");
        said(x, "not not bent", 3, "3");
        said(x, "bent or in box", 2, "13");
        said(x, "bent and in box", 2, "");
        said(x, "corners=3 and not in box", 3, "2");
        said(x, "bent or corners=3 and in box", 3, "13");
        said(x, "in box and corners=3 or bent", 3, "13");
        said(x, "(bent or corners=3) and in box", 4, "1");
        said(x, "in box and (bent or corners=3)", 4, "1");
        said(x, "not bent and in box", 3, "1");
        said(x, "not (bent and in box)", 4, "0123");
        said(x, "not(bent or in box)", 4, "02");
        said(x, "((bent))", 3, "3");
        said(x, "bent or bent or in box or bent", 4, "13");
        said(x, "area>1 and area<13 and on=4 and not in box", 5, "2");
        said(x, "not bent or bent", 3, "0123");
    }

    /** A faulty text: its place and its kind, and that the sentence stays. */
    private static void faulty(String text, int place, int kind) {
        PegBands x = Check.on(FOUR);
        said(x, "bent or in box", 2, "13");
        Check.due("sentence '" + text + "'", Check.sentence(x, text), -1 - place);
        Check.due("fault of '" + text + "'", x.fault(), kind);
        Check.due("tape behind '" + text + "'", x.count(7), 0);
        nowSaid(x, "stays", "13");
    }

    private static void faults() {
        faulty("", 0, 1);
        faulty("  ", 2, 1);
        faulty("box", 0, 1);
        faulty("bent.", 4, 1);
        faulty("bent bent", 5, 1);
        faulty("bent and", 8, 1);
        faulty("bent or ", 8, 1);
        faulty("or bent", 0, 1);
        faulty("and bent", 0, 1);
        faulty("bent and or bent", 9, 1);
        faulty("not", 3, 1);
        faulty("(bent", 5, 1);
        faulty("(bent;", 5, 1);
        faulty("bent)", 4, 1);
        faulty("()", 1, 1);
        faulty("(bent or)", 8, 1);
        faulty("in", 2, 1);
        faulty("in 5", 3, 1);
        faulty("in bent", 3, 1);
        faulty("in board", 3, 1);
        faulty("in nobody", 3, 3);
        faulty("alike nobody", 6, 3);
        faulty("in nobody5", 3, 1);
        faulty("in somebody", 3, 1);
        faulty("bent or in nobody and", 11, 3);
        faulty("area", 4, 1);
        faulty("area 5", 5, 1);
        faulty("area=", 5, 1);
        faulty("area=-5", 5, 1);
        faulty("area=box", 5, 1);
        faulty("area==5", 5, 1);
        faulty("area<=5", 5, 1);
        faulty("area=1000", 5, 1);
        faulty("area;5", 4, 1);
        faulty("area-5", 4, 1);
        faulty("bent=5", 4, 1);
        faulty("bell", 0, 1);
        faulty("BENT", 0, 1);
        faulty("bent?", 4, 1);
    }

    private static void bounds() {
        PegBands x = Check.on(FOUR);
        said(x, "bent" + " or bent".repeat(19), 20, "3");
        said(x, "bent" + " and bent".repeat(19), 20, "3");
        faulty("bent" + " or bent".repeat(20), 4 + 19 * 8 + 4, 4);
        faulty("bent" + " and bent".repeat(19) + " or x", 4 + 19 * 9 + 4, 1);
        said(x, "not ".repeat(7) + "bent", 8, "012");
        faulty("not ".repeat(8) + "bent", 32, 4);
        faulty("not ".repeat(9) + "bent", 32, 4);
        faulty("not ".repeat(8) + "and", 32, 1);
        faulty("not ".repeat(8), 32, 1);
        said(x, "(".repeat(7) + "bent" + ")".repeat(7), 8, "3");
        faulty("(".repeat(8) + "bent" + ")".repeat(8), 8, 4);
        said(x, "(not(not(not bent)))", 7, "012");
        faulty("(not(not(not(not bent))))", 17, 4);
        said(x, "not(bent or not(bent or not(bent or bent)))", 10, "012");
        // Eight within one another twice are fine.
        said(x, "not ".repeat(7) + "bent or " + "not ".repeat(7) + "bent", 16, "012");
        said(x, "not not not not not not not bent and (bent or bent) or bent", 12, "3");
        said(x, "area=2 and(area=2 and(area=2 and(area=2 and(area=2 and(area=2 and(area=2 and area=2))))))", 14, "12");
        said(x, "area=2 or(area=9 or(area=9 or(area=9 or(area=9 or(area=9 or(area=9 or area=12))))))", 14, "123");
    }

    private static void tooLong() {
        PegBands x = Check.on(FOUR);
        said(x, "bent" + Check.blanks(196), 1, "3");
        faulty("bent" + Check.blanks(197), 200, 1);
        faulty("bent" + Check.blanks(195) + "or bent", 200, 1);
        faulty("bent" + Check.blanks(195) + "ox bent", 199, 1);
        faulty("bent" + Check.blanks(196) + "ox bent", 200, 1);
        faulty("bent or" + Check.blanks(192) + "bent", 200, 1);
        faulty("in" + Check.blanks(197) + "nobody", 199, 3);
    }

    private static void snapped() {
        PegBands x = Check.on(FOUR);
        Check.due("calls", Check.calls(x, "at 2 3;by 1 0;by 0 -1;by -1 1;"), 3);
        Check.due("lay", x.lay(), 0);
        said(x, "in box", 1, "14");
        Check.due("snap the box", x.snap(0), 18);
        nowSaid(x, "in the box that snapped", "");
        Check.due("the name is none any more", Check.sentence(x, "in box"), -4);
        Check.due("no such band", x.fault(), 3);
        nowSaid(x, "the sentence stays", "");
        Check.due("undo", x.undo(), 1);
        nowSaid(x, "the box is back", "14");
        said(x, "not in box", 2, "023");
        Check.due("snap the box", x.snap(0), 18);
        nowSaid(x, "not in what is none", "0123");
        Check.due("undo", x.undo(), 1);
        said(x, "alike tri or bent", 2, "123");
        Check.due("snap the triangle", x.snap(1), 0);
        nowSaid(x, "by the other one alone", "2");
        said(x, "alike other", 1, "1");
        Check.due("move", x.move(1, 2, 29), 0);
        nowSaid(x, "what is said goes by what bands are now", "1");
        said(x, "area=2", 1, "1");
    }

    private static void withoutBoard() {
        PegBands x = new PegBands();
        said(x, "bent", 1, "");
        Check.due("no such band", Check.sentence(x, "in a"), -4);
        Check.due("no such band", x.fault(), 3);
        PegBands y = Check.on("board 3 3;band a 0 0 2 0 2 2 0 2;");
        said(y, "alike a", 1, "0");
        Check.due("a new board", Check.board(y, "board 3 3;band a 0 0 2 0 2 2 0 2;"), 2);
        Check.due("no sentence", y.said(-1), -1);
    }
}
