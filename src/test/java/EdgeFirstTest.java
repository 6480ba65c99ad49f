/** The boundaries in promises 1 to 24. Each part names its promise and its sentence. */
public final class EdgeFirstTest {
    private static final int LEAST = Check.LEAST;
    private static final int MOST = Check.MOST;
    /** Numbers that are no band's where there are two bands. */
    private static final int[] NO_BAND = {-1, 2, 7, 8, LEAST, MOST};
    private static final String TWO = "board 8 7;out 7 6;out 3 3;band a 0 0 2 0 2 2 0 2;band b 4 0 6 0 4 2;";

    public static void main(String[] args) {
        newObject();
        used512();
        feedOrder();
        feedBeyond();
        endTrue();
        endFalse();
        boardLines();
        boardEmptiesTape();
        boardStays();
        faultLatest();
        whyLatest();
        peg();
        bandWhat();
        bandNoSuch();
        corner();
        side();
        over();
        cross();
        in();
        alike();
        form();
        formAt();
        moveStays();
        moveNone();
        slideStays();
        slideNone();
        snapNumbers();
        snapPegs();
        snapNone();
        undoEight();
        undoDone();
        undoNone();
        free();
        rim();
        even();
        wide();
        Check.finish();
    }

    private static void two(PegBands x) {
        Check.due("board", Check.board(x, TWO), 5);
        Check.due("calls", Check.calls(x, "at 5 4;by 2 0;by -1 2;by -1 -2;"), 3);
        Check.due("sentence", Check.sentence(x, "alike a"), 1);
        Check.due("image", x.image(0), true);
        Check.due("slide", x.slide(0, 0, 1), 0);
        Check.due("move", x.move(1, 2, 25), 0);
        Check.due("write", x.write(1), 30);
        Check.due("form", x.form(1, 0), 6);
        Check.due("a fault", Check.board(x, "board 5 5;band a 0 0 1 1 2 2;"), -29);
        Check.tell(x, "bent and");
    }

    /** The answer to a call that is refused, and that nothing changes by it. */
    private static void refused(String what, Check.Act call) {
        Check.changesNothing(what, EdgeFirstTest::two, call);
    }

    private static void none(String what, int got) {
        Check.due(what, got, -1);
    }

    private static void newObject() {
        Check.part("Promise 1: no BOARD; an empty tape");
        PegBands x = new PegBands();
        for (int what = 0; what < 8; what++) {
            Check.due("count(" + what + ")", x.count(what), 0);
        }
        int[] answers = {x.peg(0), x.corner(0, 0), x.side(0, 0), x.over(0, 0), x.over(0, 1), x.cross(0, 1, 0), x.in(0, 1),
            x.in(0, 0), x.alike(0, 0, 0), x.form(0, 0), x.formAt(0), x.move(0, 0, 0), x.slide(0, 0, 0), x.snap(0), x.undo(),
            x.rim(0, 0), x.even(0, 0), x.wide(0), x.closes(), x.mended(-1), x.mended(0), x.lay(), x.write(0), x.byteAt(0),
            x.triangles(3, 0, -1), x.smallest(3, 0), x.cuts(0, -1), x.moved(0, 0), x.lines(-1), x.lines(0), x.said(-1)};
        for (int i = 0; i < answers.length; i++) {
            none("answer " + i + " of a new object", answers[i]);
        }
        Check.due("band", Check.throwsNoSuch(x, 0, 0), true);
        Check.due("line", x.line(0, 1), false);
        Check.due("wins", x.wins(), -2);
        Check.due("again", x.again(), 0);
        Check.due("free", x.free(), 0);
        Check.due("fault", x.fault(), 0);
        Check.due("why", x.why(), 0);
        Check.due("end(1)", x.end(1), false);
        Check.due("end(0)", x.end(0), true);
        Check.due("restore(0)", x.restore(0), false);
        Check.due("restore(1)", x.restore(1), false);
        Check.due("an empty tape", x.board(), -1);
    }

    private static void used512() {
        Check.part("What it is: an object is used for at most 512 calls");
        PegBands x = new PegBands();
        // Nine calls tell both texts, 500 more lay and snap, and three are left.
        Check.due("board", Check.board(x, "board 3 3;"), 1);
        Check.due("calls", Check.calls(x, "at 0 0;by 1 0;by-1 1;by 0-1;"), 3);
        for (int i = 9; i < 509; i += 2) {
            Check.due("lay", x.lay(), 0);
            Check.due("snap", x.snap(0), 3);
        }
        Check.due("call 510", x.lay(), 0);
        Check.due("call 511", x.undo(), 7);
        Check.due("call 512", x.free(), 9);
    }

    private static void feedOrder() {
        Check.part("Promise 2: twenty bytes come, of each number the highest first: how many it has");
        PegBands x = new PegBands();
        // "board 10 2;out 9 1; " as five numbers.
        Check.due("feed", x.feed(0x626f6172, 0x64203130, 0x20323b6f, 0x75742039, 0x20313b20), 20);
        Check.due("count(7)", x.count(7), 20);
        // They come behind the tape: "band zz 0 0 1 0 0 1;".
        Check.due("feed", x.feed(0x62616e64, 0x207a7a20, 0x30203020, 0x31203020, 0x3020313b), 40);
        Check.due("board", x.board(), 3);
        Check.due("W", x.count(0), 10);
        Check.due("H", x.count(1), 2);
        Check.due("out", x.peg(19), 0);
        // High bits are bytes of their own, no more than that.
        Check.due("feed", x.feed(0xe2616e64, 0, 0, 0, 0), 20);
        Check.due("the first byte is no small letter", x.board(), -1);
    }

    private static void feedBeyond() {
        Check.part("Promise 2: NONE, and none come, if it would have more than 640");
        PegBands x = new PegBands();
        for (int i = 1; i <= 32; i++) {
            Check.due("feed " + i, x.feed(0x20202020, 0x20202020, 0x20202020, 0x20202020, 0x20202020), 20 * i);
        }
        Check.due("660", x.feed(0x62626262, 0, 0, 0, 0), -1);
        Check.due("640 stay", x.count(7), 640);
        Check.due("end", x.end(621), true);
        Check.due("641", x.feed(0x62626262, 0, 0, 0, 0), -1);
        Check.due("621 stay", x.count(7), 621);
        Check.due("end", x.end(620), true);
        Check.due("640", x.feed(0x62626262, 0, 0, 0, 0), 640);
        Check.due("end", x.end(590), true);
        Check.due("none came at 590", x.board(), -591);
        Check.changesNothing("a feed that is refused", EdgeFirstTest::fill, y -> none("feed", y.feed(0x62626262, 2, 3, 4, 5)));
    }

    private static void fill(PegBands x) {
        Check.tell(x, "bent or bent or bent or" + Check.blanks(617));
    }

    private static void endTrue() {
        Check.part("Promise 3: the tape has its first n bytes alone: true");
        PegBands x = new PegBands();
        x.feed(0x626f6172, 0x64203220, 0x333b3b3b, 0x3b3b3b3b, 0x3b3b3b3b);
        Check.due("end(20)", x.end(20), true);
        Check.due("20 bytes", x.count(7), 20);
        Check.due("end(19)", x.end(19), true);
        Check.due("19 bytes", x.count(7), 19);
        Check.due("those cut off are gone", x.end(20), false);
        Check.due("end(10)", x.end(10), true);
        Check.due("the first ones are left", x.board(), 1);
        x.feed(1, 2, 3, 4, 5);
        Check.due("end(0)", x.end(0), true);
        Check.due("none", x.count(7), 0);
        Check.due("end(0) of none", x.end(0), true);
        Check.due("an empty text", x.board(), -1);
    }

    private static void endFalse() {
        Check.part("Promise 3: false, if it has not so many, or n is below 0");
        int[] no = {9, 10, 640, 641, -1, -2, LEAST, MOST};
        for (int n : no) {
            refused("end(" + n + ")", x -> Check.due("end(" + n + ")", x.end(n), false));
        }
        Check.due("end(1) of none", new PegBands().end(1), false);
    }

    private static void boardLines() {
        Check.part("Promise 4: how many LINES (that of 'board' too)");
        Check.due("one", Check.board(new PegBands(), "board 2 2;"), 1);
        StringBuilder s = new StringBuilder("board 10 10;bell;");
        for (int i = 0; i < 12; i++) {
            s.append("out ").append(i % 10).append(' ').append(i / 10).append(';');
        }
        for (int i = 0; i < 8; i++) {
            s.append("band ").append((char) ('a' + i)).append(" 5 5 6 5 5 6;");
        }
        Check.due("the most", Check.board(new PegBands(), s.toString()), 22);
    }

    private static void boardEmptiesTape() {
        Check.part("Promise 4: the tape is empty then, here and below");
        PegBands x = new PegBands();
        Check.due("a board", Check.board(x, "board 3 3;"), 1);
        Check.due("empty", x.count(7), 0);
        Check.due("a fault", Check.board(x, "board 3 3"), -10);
        Check.due("empty", x.count(7), 0);
        Check.due("calls", Check.calls(x, "at 0 0;by 0 0;by 0 0;by 0 0;"), 3);
        Check.due("empty", x.count(7), 0);
        Check.due("a fault", Check.calls(x, "at 3 0;"), -4);
        Check.due("empty", x.count(7), 0);
        Check.due("a sentence", Check.sentence(x, "bent"), 1);
        Check.due("empty", x.count(7), 0);
        Check.due("a fault", Check.sentence(x, "bent bent"), -6);
        Check.due("empty", x.count(7), 0);
        Check.due("an empty tape again", x.sentence(), -1);
    }

    private static void boardStays() {
        Check.part("Promise 4: -1 less the place of a FAULT: it stays");
        String[] texts = {"", "b", "board 11 3;", "board 3 3;bell;bell;", "board 3 3;band a 0 0 1 0 2 0;", "board 3 3"};
        int[] places = {0, 0, 6, 15, 28, 9};
        for (int i = 0; i < texts.length; i++) {
            PegBands x = new PegBands();
            PegBands y = new PegBands();
            two(x);
            two(y);
            Check.due("board '" + texts[i] + "'", Check.board(x, texts[i]), -1 - places[i]);
            Check.due("all stays", Check.rest(x), Check.rest(y));
        }
        PegBands none = new PegBands();
        Check.due("without one", Check.board(none, "board 3 3"), -10);
        Check.due("there is none still", none.count(0), 0);
        Check.due("there is none still", none.peg(0), -1);
    }

    private static void faultLatest() {
        Check.part("Promise 5: the kind of the FAULT of the latest board(), calls() or sentence(); 0 without one and ahead of any");
        PegBands x = new PegBands();
        Check.due("ahead of any", x.fault(), 0);
        Check.due("board", Check.board(x, "board 3 3"), -10);
        Check.due("1", x.fault(), 1);
        Check.due("board", Check.board(x, "board 3 1;"), -9);
        Check.due("2", x.fault(), 2);
        Check.due("board", Check.board(x, "board 3 3;bell;bell;"), -16);
        Check.due("3", x.fault(), 3);
        Check.due("board", Check.board(x, "board 3 3;band a 0 0 1 0 2 0;"), -29);
        Check.due("5", x.fault(), 5);
        Check.due("board", Check.board(x, "board 3 3;band a 0 0 1 0 0 1;"), 2);
        Check.due("without one", x.fault(), 0);
        Check.due("calls", Check.calls(x, "at 0 0;" + "by 0 0;".repeat(9)), -64);
        Check.due("4", x.fault(), 4);
        Check.due("other calls leave it", x.lay() + x.snap(5) + x.form(7, 7) + x.move(0, 0, 99), -4);
        Check.due("still 4", x.fault(), 4);
        Check.due("calls", Check.calls(x, "at 0 0;by 0 0;by 0 0;by 0 0;"), 3);
        Check.due("without one", x.fault(), 0);
        Check.due("sentence", Check.sentence(x, "in b"), -4);
        Check.due("3", x.fault(), 3);
        Check.due("sentence", Check.sentence(x, "in a"), 1);
        Check.due("without one", x.fault(), 0);
        Check.due("lay is wrong", x.lay(), 2);
        Check.due("that is no FAULT", x.fault(), 0);
    }

    private static void whyLatest() {
        Check.part("Promise 6: why the BAND of the latest FAULT 5 was WRONG; 0 ahead of any");
        PegBands x = new PegBands();
        Check.due("ahead of any", x.why(), 0);
        Check.due("another fault", Check.board(x, "board 3 3;bell;bell;"), -16);
        Check.due("still 0", x.why(), 0);
        String[] wrong = {"board 4 4;out 0 0;band a 0 0 1 0 0 1;", "board 4 4;band a 0 0 1 0 0 0;", "board 4 4;band a 0 0 1 0 2 0;",
            "board 4 4;band a 0 0 1 1 1 0 0 1;", "board 4 4;band a 0 0 1 0 0 1;band b 1 0 2 0 2 1;"};
        for (int i = 0; i < 5; i++) {
            Check.due("board", Check.board(x, wrong[i]), -wrong[i].length());
            Check.due("why", x.why(), i + 1);
            Check.due("another fault", Check.board(x, "board 3"), -8);
            Check.due("the latest FAULT 5 still", x.why(), i + 1);
            Check.due("without one", Check.board(x, "board 3 3;band a 0 0 1 0 0 1;"), 2);
            Check.due("the latest FAULT 5 still", x.why(), i + 1);
            Check.due("a move that is wrong by 2", x.move(0, 0, 1), 2);
            Check.due("moves tell no FAULT", x.why(), i + 1);
        }
    }

    private static void peg() {
        Check.part("Promise 7: 1: there is a PEG; 0: it is out; NONE: no such place");
        PegBands x = Check.on("board 7 3;out 6 2;out 0 0;");
        int[][] due = {{0, 0}, {1, 1}, {6, 1}, {7, -1}, {9, -1}, {10, 1}, {16, 1}, {17, -1}, {25, 1}, {26, 0}, {27, -1},
            {29, -1}, {30, -1}, {36, -1}, {-1, -1}, {-4, -1}, {-10, -1}, {99, -1}, {100, -1}, {LEAST, -1}, {MOST, -1}};
        for (int[] pair : due) {
            Check.due("peg(" + pair[0] + ")", x.peg(pair[0]), pair[1]);
        }
        PegBands y = Check.on("board 10 10;");
        Check.due("peg(99)", y.peg(99), 1);
        Check.due("peg(100)", y.peg(100), -1);
    }

    private static void bandWhat() {
        Check.part("Promise 8: 0 corners, 1 AREA, 2 ON, 3 WITHIN, 4 BENT IN, 5 RIGHT ones, 6 CROSSINGS with all others");
        PegBands x = Check.on("board 10 10;bell;band a 0 0 4 0 4 4 2 1 0 4;band b 1 1 9 1 9 2 1 2;band c 3 0 3 9 4 9;");
        int[] due = {5, 20, 14, 4, 1, 2};
        for (int what = 0; what < due.length; what++) {
            Check.due("band(0, " + what + ")", x.band(0, what), due[what]);
        }
        // With all others, those behind it and those ahead of it.
        for (int b = 0; b < 3; b++) {
            int sum = 0;
            for (int other = 0; other < 3; other++) {
                sum += other == b ? 0 : x.cross(b, other, 0);
            }
            Check.due("band(" + b + ", 6)", x.band(b, 6), sum);
            Check.due("there are some", sum > 0, true);
        }
        Check.due("a band alone", Check.on("board 3 3;band a 0 0 1 0 0 1;").band(0, 6), 0);
    }

    private static void bandNoSuch() {
        Check.part("Promise 8: NoSuchElementException: no such ones");
        PegBands x = Check.on(TWO);
        for (int what = 0; what < 7; what++) {
            Check.due("band(1, " + what + ")", Check.throwsNoSuch(x, 1, what), false);
            for (int b : NO_BAND) {
                Check.due("band(" + b + ", " + what + ")", Check.throwsNoSuch(x, b, what), true);
            }
        }
        int[] no = {-1, 7, 8, LEAST, MOST};
        for (int what : no) {
            Check.due("band(0, " + what + ")", Check.throwsNoSuch(x, 0, what), true);
        }
        refused("band(2, 0)", y -> Check.due("throws", Check.throwsNoSuch(y, 2, 0), true));
        refused("band(0, 7)", y -> Check.due("throws", Check.throwsNoSuch(y, 0, 7), true));
    }

    private static void corner() {
        Check.part("Promise 9: the PEG of corner i; NONE: no such ones");
        PegBands x = Check.on(TWO);
        Check.due("corner(0, 3)", x.corner(0, 3), 20);
        none("corner(0, 4)", x.corner(0, 4));
        Check.due("corner(1, 2)", x.corner(1, 2), 24);
        none("corner(1, 3)", x.corner(1, 3));
        int[] no = {-1, 8, LEAST, MOST};
        for (int i : no) {
            none("corner(0, " + i + ")", x.corner(0, i));
        }
        for (int b : NO_BAND) {
            none("corner(" + b + ", 0)", x.corner(b, 0));
        }
        PegBands eight = Check.on("board 5 5;band a 0 0 2 0 2 1 4 1 4 4 3 4 3 2 0 2;");
        Check.due("corner(0, 7)", eight.corner(0, 7), 20);
        none("corner(0, 8)", eight.corner(0, 8));
    }

    private static void side() {
        Check.part("Promise 10: the SQUARE of SIDE i (from corner i on); NONE: no such ones");
        PegBands x = Check.on(TWO);
        Check.due("side(1, 0)", x.side(1, 0), 4);
        Check.due("side(1, 1)", x.side(1, 1), 8);
        Check.due("side(1, 2), back to corner 0", x.side(1, 2), 4);
        none("side(1, 3)", x.side(1, 3));
        int[] no = {-1, 4, 8, LEAST, MOST};
        for (int i : no) {
            none("side(0, " + i + ")", x.side(0, i));
        }
        for (int b : NO_BAND) {
            none("side(" + b + ", 0)", x.side(b, 0));
        }
    }

    private static void over() {
        Check.part("Promise 11: BANDS that enclose a place (0: WITHIN them), that it is ON (1), as bits; NONE: no such ones");
        StringBuilder s = new StringBuilder("board 10 9;bell;");
        for (int i = 0; i < 8; i++) {
            s.append("band ").append((char) ('a' + i)).append(i % 2 == 0 ? " 0 0 2 0 2 2 0 2;" : " 1 1 9 1 9 8 1 8;");
        }
        PegBands x = Check.on(s.toString());
        Check.due("within those at even numbers", x.over(11, 0), 0x55);
        Check.due("on those at odd numbers, the eighth too", x.over(11, 1), 0xaa);
        Check.due("within none", x.over(9, 0), 0);
        Check.due("on none", x.over(9, 1), 0);
        Check.due("the last place", x.over(89, 1), 0xaa);
        int[] no = {-1, 90, 99, 100, LEAST, MOST};
        for (int at : no) {
            none("over(" + at + ", 0)", x.over(at, 0));
            none("over(" + at + ", 1)", x.over(at, 1));
        }
        int[] noWhat = {-1, 2, LEAST, MOST};
        for (int what : noWhat) {
            none("over(0, " + what + ")", x.over(0, what));
        }
        none("beyond a row", Check.on("board 5 5;").over(5, 0));
        Check.due("a place that is out", Check.on("board 5 5;out 4 4;").over(44, 0), 0);
    }

    private static void cross() {
        Check.part("Promise 12: CROSSINGS of two BANDS (what 0), TOUCHES (1); NONE: no such ones, one alone");
        PegBands x = Check.on("board 9 9;bell;band a 0 0 4 0 4 4 0 4;band b 2 2 6 2 6 6 2 6;");
        Check.due("cross(0, 1, 0)", x.cross(0, 1, 0), 2);
        Check.due("cross(1, 0, 1)", x.cross(1, 0, 1), 0);
        for (int what = 0; what < 2; what++) {
            none("one alone", x.cross(0, 0, what));
            none("one alone", x.cross(1, 1, what));
            for (int b : NO_BAND) {
                none("cross(0, " + b + ")", x.cross(0, b, what));
                none("cross(" + b + ", 1)", x.cross(b, 1, what));
            }
        }
        int[] no = {-1, 2, LEAST, MOST};
        for (int what : no) {
            none("cross(0, 1, " + what + ")", x.cross(0, 1, what));
        }
    }

    private static void in() {
        Check.part("Promise 13: 1: BAND a LIES IN BAND b; 0: not; NONE: no such ones");
        PegBands x = Check.on("board 9 9;band a 0 0 4 0 4 4 0 4;band b 1 1 2 1 1 2;");
        Check.due("in(1, 0)", x.in(1, 0), 1);
        Check.due("in(0, 1)", x.in(0, 1), 0);
        Check.due("in(0, 0)", x.in(0, 0), 0);
        for (int b : NO_BAND) {
            none("in(0, " + b + ")", x.in(0, b));
            none("in(" + b + ", 0)", x.in(b, 0));
            none("in(" + b + ", " + b + ")", x.in(b, b));
        }
    }

    private static void alike() {
        Check.part("Promise 14: 1: BANDS are ALIKE (how 0 to 2); 0: not; NONE: no such ones");
        PegBands x = Check.on(TWO);
        for (int how = 0; how < 3; how++) {
            Check.due("alike(0, 0, " + how + ")", x.alike(0, 0, how), 1);
            Check.due("alike(0, 1, " + how + ")", x.alike(0, 1, how), 0);
            for (int b : NO_BAND) {
                none("alike(0, " + b + ")", x.alike(0, b, how));
                none("alike(" + b + ", 0)", x.alike(b, 0, how));
            }
        }
        int[] no = {-1, 3, LEAST, MOST};
        for (int how : no) {
            none("alike(0, 0, " + how + ")", x.alike(0, 0, how));
        }
    }

    private static void form() {
        Check.part("Promise 15: FORM of a BAND (how 0 to 2): how many numbers; NONE: no such ones");
        PegBands x = Check.on(TWO);
        for (int how = 0; how < 3; how++) {
            Check.due("form(0, " + how + ")", x.form(0, how), 8);
            Check.due("form(1, " + how + ")", x.form(1, how), 6);
            int which = how;
            for (int b : NO_BAND) {
                refused("form(" + b + ")", y -> none("form(" + b + ")", y.form(b, which)));
            }
        }
        int[] no = {-1, 3, LEAST, MOST};
        for (int how : no) {
            refused("form(0, " + how + ")", y -> none("form(0, " + how + ")", y.form(0, how)));
        }
        PegBands eight = Check.on("board 5 5;band a 0 0 2 0 2 1 4 1 4 4 3 4 3 2 0 2;");
        Check.due("the most", eight.form(0, 2), 16);
    }

    private static void formAt() {
        Check.part("Promise 16: number i of the FORM told latest; NONE: there is none such");
        PegBands x = Check.on("board 5 5;bell;band a 0 0 2 0 2 1 4 1 4 4 3 4 3 2 0 2;band b 2 2 4 2 2 3;");
        none("none told yet", x.formAt(0));
        Check.due("alike tells none", x.alike(0, 1, 2) + x.even(0, 2), 0);
        none("none told yet", x.formAt(0));
        Check.due("form", x.form(0, 0), 16);
        Check.due("formAt(0)", x.formAt(0), 0);
        Check.due("formAt(15)", x.formAt(15), 0);
        Check.due("formAt(14)", x.formAt(14), 2);
        int[] no = {-1, 16, 17, LEAST, MOST};
        for (int i : no) {
            none("formAt(" + i + ")", x.formAt(i));
        }
        Check.due("a shorter one", x.form(1, 0), 6);
        Check.due("formAt(5)", x.formAt(5), 0);
        Check.due("formAt(4)", x.formAt(4), 2);
        none("formAt(6)", x.formAt(6));
        Check.due("the band snaps", x.snap(1), 1);
        Check.due("told latest still", x.formAt(4), 2);
        Check.due("alike, even tell none", x.alike(0, 0, 1) + x.even(0, 0), 1 + x.even(0, 0));
        Check.due("told latest still", x.formAt(4), 2);
    }

    private static void moveStays() {
        Check.part("Promise 17: corner i of BAND b comes to a place: 0, or WRONG (then it stays)");
        int[][] wrong = {{0, 2, 33, 1}, {0, 2, 67, 1}, {0, 0, 12, 2}, {0, 0, 21, 3}, {0, 1, 21, 3}, {0, 0, 23, 4}, {0, 1, 4, 5}, {1, 2, 22, 5}};
        for (int[] call : wrong) {
            refused("move " + call[0] + " " + call[1] + " " + call[2],
                x -> Check.due("move " + call[2], x.move(call[0], call[1], call[2]), call[3]));
        }
        PegBands x = Check.on(TWO);
        Check.due("to the first peg, where it is", x.move(0, 0, 0), 0);
        Check.due("to the last peg of a row", x.move(1, 1, 7), 0);
        Check.due("the last corner", x.move(0, 3, 60), 0);
        Check.due("corners", Check.bands(x), "0 2 22 60;4 7 24;");
    }

    private static void moveNone() {
        Check.part("Promise 17: NONE: no such BAND, corner, place");
        for (int b : NO_BAND) {
            refused("move of band " + b, x -> none("move", x.move(b, 0, 55)));
        }
        int[] noCorner = {-1, 3, 4, 8, LEAST, MOST};
        for (int i : noCorner) {
            refused("move of corner " + i, x -> none("move", x.move(1, i, 55)));
        }
        int[] noPlace = {-1, 8, 9, 18, 70, 99, 100, LEAST, MOST};
        for (int at : noPlace) {
            refused("move to " + at, x -> none("move", x.move(1, 0, at)));
        }
    }

    private static void slideStays() {
        Check.part("Promise 18: BAND b is slid: 0, or WRONG (then it stays)");
        int[][] wrong = {{0, -1, 0, 1}, {0, 0, -2, 1}, {0, 6, 0, 1}, {0, 0, 4, 1}, {0, 1, 0, 1}, {0, 2, -1, 5}, {1, -3, 0, 5}, {0, MOST, 0, 1},
            {0, 0, MOST, 1}, {0, LEAST, 0, 1}, {0, 0, LEAST, 1}, {0, MOST, MOST, 1}, {0, LEAST, LEAST, 1}, {0, 10, -1, 1}};
        for (int[] call : wrong) {
            refused("slide " + call[0] + " " + call[1] + " " + call[2],
                x -> Check.due("slide " + call[1] + " " + call[2], x.slide(call[0], call[1], call[2]), call[3]));
        }
        PegBands x = Check.on(TWO);
        Check.due("not at all", x.slide(0, 0, 0), 0);
        Check.due("to the last row", x.slide(0, 0, 4), 0);
        Check.due("to the last column", x.slide(1, 1, 0), 0);
        Check.due("corners", Check.bands(x), "40 42 62 60;5 7 25;");
    }

    private static void slideNone() {
        Check.part("Promise 18: NONE: no such BAND");
        for (int b : NO_BAND) {
            refused("slide of band " + b, x -> none("slide", x.slide(b, 0, 0)));
        }
    }

    private static void snapNumbers() {
        Check.part("Promise 19: BAND b snaps: those behind it have one number less");
        String three = "board 9 9;bell;band a 0 0 1 0 0 1;band b 3 0 4 0 3 1;band c 6 0 7 0 7 1 6 1;";
        String[] left = {"3 4 13;6 7 17 16;", "0 1 10;6 7 17 16;", "0 1 10;3 4 13;"};
        for (int b = 0; b < 3; b++) {
            PegBands x = Check.on(three);
            Check.due("snap(" + b + ")", x.snap(b), b == 2 ? 4 : 3);
            Check.due("bands", Check.bands(x), left[b]);
            Check.due("count", x.count(2), 2);
            Check.due("band(2) throws", Check.throwsNoSuch(x, 2, 0), true);
        }
        StringBuilder s = new StringBuilder("board 9 9;bell;");
        for (int i = 0; i < 8; i++) {
            s.append("band ").append((char) ('a' + i)).append(" 0 0 1 0 0 ").append(i + 1).append(';');
        }
        for (int b = 0; b < 8; b++) {
            PegBands x = Check.on(s.toString());
            StringBuilder due = new StringBuilder();
            for (int i = 0; i < 8; i++) {
                due.append(i == b ? "" : "0 1 " + 10 * (i + 1) + ";");
            }
            Check.due("snap(" + b + ") of eight", x.snap(b), b == 7 ? 1 : 0);
            Check.due("bands", Check.bands(x), due.toString());
        }
        PegBands eight = Check.on(s.toString());
        // The last one's peg 0 8 is in no other.
        Check.due("the eighth", eight.snap(7), 1);
        Check.due("the first", eight.snap(0), 0);
        Check.due("six are left", eight.count(2), 6);
        Check.due("the second is the first now", eight.corner(0, 2), 20);
        Check.due("the seventh is the last now", eight.corner(5, 2), 70);
        none("no more", eight.corner(6, 0));
    }

    private static void snapPegs() {
        Check.part("Promise 19: how many PEGS (none out) are in no BAND (ON, WITHIN) now that were in it");
        PegBands x = Check.on("board 6 6;out 1 1;out 1 0;bell;band a 0 0 3 0 3 3 0 3;band b 3 3 5 3 5 5 3 5;band c 2 2 3 2 2 3;");
        // 16 places, two out; 3 3 is on b, and 2 2, 3 2, 2 3 on c.
        Check.due("snap a", x.snap(0), 10);
        Check.due("snap c", x.snap(1), 3);
        Check.due("snap b", x.snap(0), 9);
        Check.due("all in others", Check.on("board 5 5;band a 0 0 4 0 4 4 0 4;band b 1 1 2 1 1 2;").snap(1), 0);
        Check.due("the whole board", Check.on("board 10 10;band a 0 0 9 0 9 9 0 9;").snap(0), 100);
        Check.due("those of another one are none of it", Check.on("board 5 5;band a 0 0 1 0 0 1;band b 3 3 4 3 4 4;").snap(0), 3);
    }

    private static void snapNone() {
        Check.part("Promise 19: NONE: no such one");
        for (int b : NO_BAND) {
            refused("snap(" + b + ")", x -> none("snap", x.snap(b)));
        }
        PegBands x = Check.on("board 5 5;band a 0 0 1 0 0 1;");
        Check.due("snap", x.snap(0), 3);
        none("no more", x.snap(0));
        // The last of two snaps: its number is none's in any call.
        PegBands y = Check.on("board 5 5;band a 0 0 1 0 0 1;band b 3 3 4 3 3 4;");
        Check.due("snap", y.snap(1), 3);
        int[] answers = {y.corner(1, 0), y.side(1, 0), y.cross(0, 1, 0), y.cross(1, 0, 1), y.in(0, 1), y.in(1, 0), y.alike(0, 1, 0),
            y.alike(1, 0, 2), y.form(1, 0), y.move(1, 0, 0), y.slide(1, 0, 0), y.snap(1), y.rim(1, 0), y.even(1, 0), y.wide(1),
            y.write(1), y.cuts(1, -1), y.moved(0, 1), y.moved(1, 0), y.moved(1, 1)};
        for (int i = 0; i < answers.length; i++) {
            none("answer " + i + " for a number that snapped", answers[i]);
        }
        Check.due("band(1, 0) throws", Check.throwsNoSuch(y, 1, 0), true);
        Check.due("in no place", y.over(33, 1), 0);
    }

    private static void undoEight() {
        Check.part("Promise 20: how many more can be (8 at most are kept)");
        for (int done = 1; done <= 10; done++) {
            PegBands x = Check.on("board 10 10;band a 0 0 1 0 0 9;");
            for (int i = 1; i <= done; i++) {
                Check.due("move " + i, x.move(0, 2, i == 10 ? 80 : 90 + i), 0);
            }
            int kept = Math.min(done, 8);
            for (int i = 1; i <= kept; i++) {
                Check.due("undo " + i + " of " + done, x.undo(), kept - i);
                Check.due("as it was", x.corner(0, 2), 90 + done - i);
            }
            none("none is kept any more", x.undo());
            Check.due("the oldest stay done", x.corner(0, 2), 90 + done - kept);
        }
    }

    private static void undoDone() {
        Check.part("Promise 20: the latest of move(), slide(), snap(), lay() that was done is undone");
        PegBands x = Check.on(TWO);
        Check.due("calls", Check.calls(x, "at 5 4;by 2 0;by -1 2;by -1 -2;"), 3);
        Check.due("move", x.move(1, 2, 25), 0);
        Check.due("lay", x.lay(), 0);
        Check.due("snap", x.snap(0), 9);
        Check.due("slide", x.slide(0, -1, 0), 0);
        // None of these is done, so none is undone.
        Check.due("wrong move", x.move(0, 0, 5), 2);
        none("no such place", x.move(0, 0, 8));
        Check.due("wrong slide", x.slide(0, 9, 0), 1);
        none("no such one", x.snap(2));
        Check.due("wrong lay", x.lay(), 5);
        Check.due("calls are no such thing", Check.calls(x, "at 0 0;by 1 0;by -1 1;by 0 -1;"), 3);
        Check.due("sentence is no such thing", Check.sentence(x, "bent"), 1);
        Check.due("image is no such thing", x.image(0), true);
        Check.due("bands", Check.bands(x), "3 5 24;45 47 66;");
        Check.due("the slide", x.undo(), 3);
        Check.due("bands", Check.bands(x), "4 6 25;45 47 66;");
        Check.due("the snap", x.undo(), 2);
        Check.due("bands", Check.bands(x), "0 2 22 20;4 6 25;45 47 66;");
        Check.due("the lay", x.undo(), 1);
        Check.due("bands", Check.bands(x), "0 2 22 20;4 6 25;");
        Check.due("the move", x.undo(), 0);
        Check.due("bands", Check.bands(x), "0 2 22 20;4 6 24;");
        none("none is", x.undo());
        Check.due("the sentence stays", x.said(-1), 0);
        Check.due("the calls stay", x.count(5), 3);
    }

    private static void undoNone() {
        Check.part("Promise 20: NONE: none is");
        none("a new object", new PegBands().undo());
        PegBands x = Check.on(TWO);
        none("a new board", x.undo());
        Check.due("slide", x.slide(0, 0, 1), 0);
        Check.due("undo", x.undo(), 0);
        none("undone already", x.undo());
        Check.due("bands", Check.bands(x), "0 2 22 20;4 6 24;");
        Check.due("slide", x.slide(0, 0, 1), 0);
        Check.due("the same board anew", Check.board(x, TWO), 5);
        none("nothing of the old one", x.undo());
        Check.changesNothing("undo of nothing", y -> Check.due("board", Check.board(y, TWO), 5), y -> none("undo", y.undo()));
    }

    private static void free() {
        Check.part("Promise 21: PEGS (none out) in no BAND");
        Check.due("no board", new PegBands().free(), 0);
        Check.due("all", Check.on("board 10 10;").free(), 100);
        Check.due("the least board", Check.on("board 2 2;").free(), 4);
        Check.due("none", Check.on("board 3 3;band a 0 0 2 0 2 2 0 2;").free(), 0);
        Check.due("all out", Check.on("board 2 2;out 0 0;out 1 0;out 0 1;out 1 1;").free(), 0);
        Check.due("those out are none", Check.on("board 4 4;out 3 3;out 1 0;band a 0 0 2 0 0 2;").free(), 9);
        Check.due("in two bands, once", Check.on("board 4 4;bell;band a 0 0 2 0 0 2;band b 0 0 2 0 0 2;").free(), 10);
    }

    private static void rim() {
        Check.part("Promise 22: 0 least X, 1 least Y, 2 how wide, 3 how high; NONE: no such ones");
        PegBands x = Check.on("board 10 10;bell;band a 9 9 0 0 9 0;band b 3 4 8 5 5 9;");
        int[][] due = {{0, 0, 9, 9}, {3, 4, 5, 5}};
        for (int b = 0; b < 2; b++) {
            for (int what = 0; what < 4; what++) {
                Check.due("rim(" + b + ", " + what + ")", x.rim(b, what), due[b][what]);
            }
        }
        Check.due("how wide, the least", Check.on("board 9 9;band a 8 0 7 0 7 8;").rim(0, 2), 1);
        Check.due("least X, the greatest", Check.on("board 10 10;band a 8 8 9 8 9 9;").rim(0, 0), 8);
        int[] no = {-1, 4, LEAST, MOST};
        for (int what : no) {
            none("rim(0, " + what + ")", x.rim(0, what));
        }
        for (int b : NO_BAND) {
            none("rim(" + b + ", 0)", x.rim(b, 0));
        }
    }

    private static void even(String corners, int half, int quarter, int over) {
        PegBands x = Check.on("board 10 10;band a " + corners + ";");
        Check.due("by half: " + corners, x.even(0, 0), half);
        Check.due("by a quarter: " + corners, x.even(0, 1), quarter);
        Check.due("over: " + corners, x.even(0, 2), over);
    }

    private static void even() {
        Check.part("Promise 23: turned by half (0), by a quarter (1), over and by some quarters or none (2); NONE: no such ones");
        even("5 5 8 5 8 8 5 8", 1, 1, 1);
        even("1 0 3 1 2 3 0 2", 1, 1, 0);
        even("0 0 4 0 4 2 0 2", 1, 0, 1);
        even("0 0 3 0 4 1 1 1", 1, 0, 0);
        even("0 0 3 0 1 2", 0, 0, 0);
        // Over alone, over and by a half, by a quarter, by three quarters.
        even("0 3 1 0 2 3", 0, 0, 1);
        even("0 0 3 1 0 2", 0, 0, 1);
        even("0 0 2 1 4 4 1 2", 0, 0, 1);
        even("4 0 3 2 0 4 2 1", 0, 0, 1);
        even("1 0 3 1 5 1 4 3 4 5 2 4 0 4 1 2", 1, 1, 0);
        PegBands x = Check.on(TWO);
        int[] no = {-1, 3, LEAST, MOST};
        for (int how : no) {
            none("even(0, " + how + ")", x.even(0, how));
        }
        for (int b : NO_BAND) {
            none("even(" + b + ", 0)", x.even(b, 0));
        }
    }

    private static void wide() {
        Check.part("Promise 24: the longest distance between two corners, squared; NONE: no such one");
        Check.due("the least", Check.on("board 2 2;band a 0 0 1 0 0 1;").wide(0), 2);
        Check.due("the greatest", Check.on("board 10 10;band a 0 0 9 0 9 9 0 9;").wide(0), 162);
        Check.due("between the first and the last", Check.on("board 10 10;band a 0 0 4 1 9 9;").wide(0), 162);
        Check.due("between corners that are not next", Check.on("board 10 10;band a 0 4 4 3 9 4 4 5;").wide(0), 81);
        PegBands x = Check.on(TWO);
        for (int b : NO_BAND) {
            none("wide(" + b + ")", x.wide(b));
        }
    }
}
