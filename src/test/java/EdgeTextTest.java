/** The boundaries in part 1 of the document's "Terms": tokens, boards, calls, faults. Each part names its sentence. */
public final class EdgeTextTest {
    private static final String HEAD = "board 5 5;";
    private static final String ONE = "band a 0 0 1 0 0 1;";
    private static final String EIGHT_CORNERS = "band a 0 0 2 0 2 1 4 1 4 4 3 4 3 2 0 2";
    private static final String AT = "at 0 0;";
    private static final String GOOD_CALLS = "at 0 0;by 2 0;by 0 2;by -2 -2;";

    public static void main(String[] args) {
        blanks();
        blanksOrNot();
        words();
        numbers();
        signs();
        goesOn();
        boardBytes();
        boardSize();
        bellOnce();
        bellBehind();
        outOnce();
        outAheadOfBands();
        outTwelve();
        bandCorners();
        bandEight();
        belowWidth();
        names();
        nameOnce();
        emptyText();
        pegNumbers();
        callsBytes();
        callsAt();
        callsN();
        callsBy();
        lineKinds();
        firstAlong();
        leastOfOneToken();
        atTheEnd();
        atTheMostBytes();
        readWhole();
        faultTwo();
        faultThree();
        faultFour();
        faultFive();
        Check.finish();
    }

    /** A board without a fault, told by so many lines. */
    private static PegBands good(String text, int lines) {
        PegBands x = new PegBands();
        Check.due("board '" + text + "'", Check.board(x, text), lines);
        Check.due("fault of '" + text + "'", x.fault(), 0);
        return x;
    }

    /** A board with a fault at a place: all that was there stays. */
    private static void bad(String text, int place, int kind) {
        PegBands x = new PegBands();
        PegBands y = new PegBands();
        Check.makeRich(x);
        Check.makeRich(y);
        Check.due("board '" + text + "'", Check.board(x, text), -1 - place);
        Check.due("fault of '" + text + "'", x.fault(), kind);
        Check.due("tape behind '" + text + "'", x.count(7), 0);
        Check.due("what stays behind '" + text + "'", Check.rest(x), Check.rest(y));
    }

    private static void goodCalls(String text, int many) {
        PegBands x = Check.on(HEAD);
        Check.due("calls '" + text + "'", Check.calls(x, text), many);
        Check.due("fault of '" + text + "'", x.fault(), 0);
        Check.due("count(5) behind '" + text + "'", x.count(5), many);
    }

    /** Calls with a fault at a place: all that was there stays. */
    private static void badCalls(String text, int place, int kind) {
        PegBands x = new PegBands();
        PegBands y = new PegBands();
        Check.makeRich(x);
        Check.makeRich(y);
        Check.due("calls '" + text + "'", Check.calls(x, text), -1 - place);
        Check.due("fault of '" + text + "'", x.fault(), kind);
        Check.due("tape behind '" + text + "'", x.count(7), 0);
        Check.due("what stays behind '" + text + "'", Check.rest(x), Check.rest(y));
    }

    private static void goodSentence(String text, int ones) {
        PegBands x = Check.on(HEAD + ONE);
        Check.due("sentence '" + text + "'", Check.sentence(x, text), ones);
        Check.due("fault of '" + text + "'", x.fault(), 0);
    }

    private static String outs(int n) {
        StringBuilder s = new StringBuilder();
        for (int i = 0; i < n; i++) {
            s.append("out ").append(i % 10).append(' ').append(i / 10).append(';');
        }
        return s.toString();
    }

    /** Bands of 19 bytes, named from b on, all about the same pegs. */
    private static String bands(int n) {
        StringBuilder s = new StringBuilder();
        for (int i = 0; i < n; i++) {
            s.append("band ").append((char) ('b' + i)).append(" 7 7 8 7 7 8;");
        }
        return s.toString();
    }

    private static void blanks() {
        Check.part("Terms 1, blanks (32, 10) between TOKENS");
        good("\n board \n5\n5 ;\nbell\n;  ", 2);
        goodCalls("\nat\n0 0\n; by 1\n- 1;by\n0 0;by 0 0 ;\n ", 3);
        goodSentence("\n not\n( area\n=\n1 ) ", 3);
        int[] none = {0, 9, 11, 12, 13, 31, 33, 127, 160, 255};
        for (int c : none) {
            bad("board" + (char) c + "5 5;", 5, 1);
            bad((char) c + "board 5 5;", 0, 1);
            bad("board 5 5;" + (char) c, 10, 1);
            badCalls(AT + (char) c + "by 1 0;", 7, 1);
        }
    }

    private static void blanksOrNot() {
        Check.part("Terms 1, blanks between TOKENS or not");
        good("board 5 5;bell;out 4 4;" + ONE, 4);
        goodCalls("at 0 0;by-1-0;by 1-1;by-0 1;", 3);
        goodSentence("not(area<5)or(not(bent)and(on>3))", 9);
        goodSentence("area=1 and(bent)", 3);
    }

    private static void words() {
        Check.part("Terms 1, WORDS: small letters, 1 to 7");
        good(HEAD + "band z 0 0 1 0 0 1;", 2);
        good(HEAD + "band azazaza 0 0 1 0 0 1;", 2);
        good(HEAD + "band corner 0 0 1 0 0 1;band cornerz 2 2 3 2 2 3;", 3);
        bad(HEAD + "band azazazaz 0 0 1 0 0 1;", 15, 1);
        bad(HEAD + "band abcdefghijklmnopqrstuvwxyz 0 0 1 0 0 1;", 15, 1);
        bad("boardboard 5 5;", 0, 1);
        int[] beside = {'a' - 1, 'z' + 1, 'A', 'Z', '_', 'a' + 128};
        for (int c : beside) {
            bad(HEAD + "band " + (char) c + " 0 0 1 0 0 1;", 15, 1);
            bad(HEAD + "band b" + (char) c + " 0 0 1 0 0 1;", 16, 1);
        }
        // The names a, aa, az and za are four: none counts as another one.
        good("board 9 9;bell;band a 0 0 1 0 0 1;band aa 0 0 1 0 0 1;band az 0 0 1 0 0 1;band za 0 0 1 0 0 1;", 6);
    }

    private static void numbers() {
        Check.part("Terms 1, NUMBERS: 1 to 3 digits");
        good("board 5 05;", 1);
        good("board 005 010;", 1);
        bad("board 0005 5;", 6, 1);
        bad("board 5 00005;", 8, 1);
        bad(HEAD + "out 0000 0;", 14, 1);
        badCalls("at 0000 0;", 3, 1);
        badCalls(AT + "by 0 -0001;", 13, 1);
        goodSentence("area<000", 1);
        goodSentence("area<999", 1);
        int[] beside = {'0' - 1, '9' + 1};
        for (int c : beside) {
            bad("board " + (char) c + " 5;", 6, 1);
            bad("board 5" + (char) c + "5;", 7, 1);
        }
        // A number of many digits is no token, whatever it would be in a machine's int.
        bad("board 4294967301 5;", 6, 1);
        bad("board 18446744073709551621 5;", 6, 1);
    }

    private static void signs() {
        Check.part("Terms 1, TOKENS ; - < = > ( )");
        goodCalls("at 0 0;by - 1 0;by 1 0;by 0 0;", 3);
        goodSentence("(area<1)or(area=1)or(area>1)", 6);
        String others = "!\"#$%&'*+,./:?@[]^_`{|}~";
        for (int i = 0; i < others.length(); i++) {
            bad("board 5 5" + others.charAt(i), 9, 1);
        }
        String here = "-<=>()";
        for (int i = 0; i < here.length(); i++) {
            bad("board 5 5" + here.charAt(i) + ";", 9, 1);
        }
    }

    private static void goesOn() {
        Check.part("Terms 1, a WORD, NUMBER goes on as long as small letters and digits do");
        bad("board5 5;", 0, 1);
        bad("board 5x5;", 6, 1);
        bad("board 5 5bell;", 8, 1);
        bad(HEAD + "bell5;", 10, 1);
        bad(HEAD + "band b0 0 1 0 0 1;", 15, 1);
        bad(HEAD + "band 0b 0 1 0 0 1;", 15, 1);
        bad(HEAD + "band b 0 0 1 0 0 1c;", 27, 1);
        badCalls("at0 0;", 0, 1);
        badCalls(AT + "by1 0;", 7, 1);
        badCalls(AT + "by 1 0by 1 0;", 12, 1);
        PegBands x = Check.on(HEAD + ONE);
        Check.due("area<5or", Check.sentence(x, "area<5or bent"), -6);
        Check.due("fault", x.fault(), 1);
    }

    private static void boardBytes() {
        Check.part("Terms 1, a BOARD is a text of at most 600 bytes");
        good(HEAD + Check.blanks(590), 1);
        good(HEAD + Check.blanks(585) + "bell;", 2);
        bad(HEAD + Check.blanks(591), 600, 1);
        bad(HEAD + Check.blanks(586) + "bell;", 600, 1);
        bad(HEAD + Check.blanks(630), 600, 1);
    }

    private static void boardSize() {
        Check.part("Terms 1, 'board' W H: 2 to 10 both");
        int[][] sizes = {{2, 2}, {2, 10}, {10, 2}, {10, 10}};
        for (int[] size : sizes) {
            PegBands x = good("board " + size[0] + " " + size[1] + ";", 1);
            Check.due("W", x.count(0), size[0]);
            Check.due("H", x.count(1), size[1]);
        }
        int[] no = {0, 1, 11, 12, 99, 100, 999};
        for (int n : no) {
            bad("board " + n + " 5;", 6, 2);
            bad("board 5 " + n + ";", 8, 2);
        }
    }

    private static void bellOnce() {
        Check.part("Terms 1, 'bell' once");
        Check.due("bell", good(HEAD + "bell;", 2).count(4), 1);
        Check.due("none", good(HEAD, 1).count(4), 0);
        bad(HEAD + "bell;bell;", 15, 3);
        bad(HEAD + ONE + "bell;out 4 4;", 34, 3);
        bad(HEAD + "bell;out 4 4;" + ONE + "bell;", 42, 3);
    }

    private static void bellBehind() {
        Check.part("Terms 1, bands may cross, those told behind the bell, and all from then on");
        String cross = "band b 0 2 2 2 1 0;";
        bad(HEAD + ONE + "band b 0 0 2 2 2 0;bell;", 47, 5);
        good(HEAD + ONE + "bell;band b 0 0 2 2 2 0;", 4);
        good(HEAD + "bell;" + ONE + cross, 4);
        // Moved, slid and laid from then on: also the band told ahead of the bell.
        PegBands x = good(HEAD + ONE + "band c 3 3 4 3 4 4;bell;", 4);
        Check.due("move", x.move(0, 2, 44), 0);
        Check.due("slide", x.slide(1, -2, -2), 0);
        Check.due("calls", Check.calls(x, GOOD_CALLS), 3);
        Check.due("lay", x.lay(), 0);
        Check.due("lay again", x.lay(), 0);
        PegBands y = good(HEAD + ONE + "band c 3 3 4 3 4 4;", 3);
        Check.due("move without a bell", y.move(0, 2, 44), 5);
        Check.due("slide without a bell", y.slide(1, -2, -3), 5);
        Check.due("calls", Check.calls(y, GOOD_CALLS), 3);
        Check.due("lay without a bell", y.lay(), 5);
    }

    private static void outOnce() {
        Check.part("Terms 1, 'out' X Y: each PEG once");
        PegBands x = good("board 10 10;out 0 0;out 9 9;out 3 6;out 4 6;out 6 3;", 6);
        Check.due("out", x.count(3), 5);
        int[] out = {0, 99, 63, 64, 36};
        for (int at : out) {
            Check.due("peg(" + at + ")", x.peg(at), 0);
        }
        Check.due("peg(65)", x.peg(65), 1);
        Check.due("peg(62)", x.peg(62), 1);
        bad("board 10 10;out 0 0;out 0 0;", 26, 3);
        bad("board 10 10;out 3 6;out 3 6;", 26, 3);
        bad("board 10 10;out 4 6;out 4 6;", 26, 3);
        bad("board 10 10;out 9 9;out 6 3;out 9 9;", 34, 3);
        bad("board 10 10;out 1 2;out 2 1;bell;out 001 02;", 41, 3);
    }

    private static void outAheadOfBands() {
        Check.part("Terms 1, 'out' ahead of all bands");
        good(HEAD + "bell;out 4 4;" + ONE, 4);
        good(HEAD + "out 4 4;bell;out 3 4;" + ONE + "band b 0 0 1 0 0 1;", 6);
        bad(HEAD + ONE + "out 4 4;", 29, 3);
        bad(HEAD + ONE + "bell;out 4 4;", 34, 3);
    }

    private static void outTwelve() {
        Check.part("Terms 1, 'out': 12 at most");
        PegBands x = good("board 10 10;" + outs(12), 13);
        Check.due("out", x.count(3), 12);
        Check.due("pegs", x.free(), 88);
        bad("board 10 10;" + outs(13), 12 + 12 * 8, 4);
        bad("board 10 10;" + outs(12) + "out", 12 + 12 * 8, 4);
    }

    private static void bandCorners() {
        Check.part("Terms 1, 'band' NAME X Y X Y X Y { X Y }: its corners, 8 at most");
        Check.due("3 corners", good(HEAD + ONE, 2).band(0, 0), 3);
        Check.due("8 corners", good(HEAD + EIGHT_CORNERS + ";", 2).band(0, 0), 8);
        Check.due("the eighth", good(HEAD + EIGHT_CORNERS + ";", 2).corner(0, 7), 20);
        bad(HEAD + "band b;", 16, 1);
        bad(HEAD + "band b 0 0;", 20, 1);
        bad(HEAD + "band b 0 0 1 0;", 24, 1);
        bad(HEAD + "band b 0 0 1 0 0;", 26, 1);
        bad(HEAD + "band b 0 0 1 0 0 1 1;", 30, 1);
        bad(HEAD + EIGHT_CORNERS + " 0 1;", 49, 4);
    }

    private static void bandEight() {
        Check.part("Terms 1, 8 BANDS at most, numbered from 0");
        PegBands x = good("board 10 10;bell;" + bands(7) + ONE, 10);
        Check.due("bands", x.count(2), 8);
        Check.due("the first", x.corner(0, 0), 77);
        Check.due("the eighth", x.corner(7, 1), 1);
        Check.due("no ninth", x.corner(8, 0), -1);
        bad("board 10 10;bell;" + bands(8) + ONE, 17 + 8 * 19, 4);
        bad("board 10 10;bell;" + bands(8) + "band", 17 + 8 * 19, 4);
    }

    private static void belowWidth() {
        Check.part("Terms 1, X from 0, below W, Y from 0, below H");
        good("board 3 4;out 0 0;out 2 3;", 3);
        good("board 4 3;out 0 0;out 3 2;", 3);
        good("board 10 10;band b 0 0 9 0 9 9 0 9;", 2);
        good("board 2 3;band b 0 0 1 0 1 2;", 2);
        bad("board 3 4;out 3 0;", 14, 2);
        bad("board 3 4;out 0 4;", 16, 2);
        bad("board 4 3;out 4 0;", 14, 2);
        bad("board 4 3;out 0 3;", 16, 2);
        bad("board 10 10;out 10 0;", 16, 2);
        bad("board 10 10;out 0 10;", 18, 2);
        bad("board 2 3;band b 2 0 1 0 1 2;", 17, 2);
        bad("board 2 3;band b 0 3 1 0 1 2;", 19, 2);
        bad("board 2 3;band b 0 0 1 0 2 2;", 25, 2);
        bad("board 2 3;band b 0 0 1 0 1 3;", 27, 2);
        bad(HEAD + "out -1 0;", 14, 1);
        bad(HEAD + "band b 0 0 1 -1 0 1;", 23, 1);
    }

    private static void names() {
        Check.part("Terms 1, NAME: a WORD, none of those told here, in CALLS or a SENTENCE");
        String told = "board bell out band at by or and not in alike bent area on within corners right";
        for (String word : told.split(" ")) {
            bad(HEAD + "band " + word + " 0 0 1 0 0 1;", 15, 1);
            String longer = (word + "x").substring(0, Math.min(7, word.length() + 1));
            if (!longer.equals(word)) {
                good(HEAD + "band " + longer + " 0 0 1 0 0 1;", 2);
            }
            String shorter = word.substring(0, word.length() - 1);
            good(HEAD + "band " + shorter + " 0 0 1 0 0 1;", 2);
        }
        bad(HEAD + "band 7 0 0 1 0 0 1;", 15, 1);
        bad(HEAD + "band ; 0 0 1 0 0 1;", 15, 1);
    }

    private static void nameOnce() {
        Check.part("Terms 1, NAME told once");
        good(HEAD + "bell;" + ONE + "band b 0 0 1 0 0 1;", 4);
        bad(HEAD + "bell;" + ONE + "band a 0 0 1 0 0 1;", 39, 3);
        bad(HEAD + "bell;" + ONE + "band b 0 0 1 0 0 1;band b", 58, 3);
        bad("board 10 10;bell;" + bands(7) + "band b 0 0 1 0 0 1;", 17 + 7 * 19 + 5, 3);
        // A board's names are its own: the next one may tell them again.
        PegBands x = good(HEAD + ONE, 2);
        Check.due("the same name on a new board", Check.board(x, HEAD + ONE), 2);
    }

    private static void emptyText() {
        Check.part("Terms 1, an empty text is no BOARD");
        bad("", 0, 1);
        bad(" ", 1, 1);
        bad("\n\n", 2, 1);
        PegBands x = new PegBands();
        Check.due("an empty tape", x.board(), -1);
        Check.due("fault", x.fault(), 1);
        Check.due("no board", x.count(0), 0);
    }

    private static void pegNumbers() {
        Check.part("Terms 1, PEGS are told by numbers: 10 times Y and X");
        PegBands x = good("board 10 9;out 9 8;band a 9 0 0 8 0 0;", 3);
        Check.due("corner 0", x.corner(0, 0), 9);
        Check.due("corner 1", x.corner(0, 1), 80);
        Check.due("corner 2", x.corner(0, 2), 0);
        Check.due("peg(89)", x.peg(89), 0);
        Check.due("peg(90)", x.peg(90), -1);
    }

    private static void callsBytes() {
        Check.part("Terms 1, CALLS are a text of at most 300 bytes");
        goodCalls(GOOD_CALLS + Check.blanks(270), 3);
        goodCalls(AT + Check.blanks(272) + "by 1 0;by 1 0;by 1 0;", 3);
        badCalls(GOOD_CALLS + Check.blanks(271), 300, 1);
        badCalls(AT + Check.blanks(273) + "by 1 0;by 1 0;by 1 0;", 300, 1);
        badCalls(GOOD_CALLS + Check.blanks(610), 300, 1);
    }

    private static void callsAt() {
        Check.part("Terms 1, CALLS 'at' X Y");
        PegBands x = Check.on("board 3 5;");
        Check.due("the last peg", Check.calls(x, "at 2 4;by 0 0;by 0 0;by 0 0;"), 3);
        Check.due("x is W", Check.calls(x, "at 3 4;by 0 0;by 0 0;by 0 0;"), -4);
        Check.due("fault", x.fault(), 2);
        Check.due("y is H", Check.calls(x, "at 2 5;by 0 0;by 0 0;by 0 0;"), -6);
        Check.due("fault", x.fault(), 2);
        PegBands y = Check.on("board 10 10;");
        Check.due("the last peg", Check.calls(y, "at 9 9;by 0 0;by 0 0;by 0 0;"), 3);
        Check.due("x is W", Check.calls(y, "at 10 9;by 0 0;by 0 0;by 0 0;"), -4);
        badCalls("at -0 0;by 0 0;by 0 0;by 0 0;", 3, 1);
        badCalls("at 0 0;at 0 0;", 7, 1);
        badCalls("at 0 0 0;", 7, 1);
        badCalls("by 0 0;", 0, 1);
    }

    private static void callsN() {
        Check.part("Terms 1, CALLS 'by' [ - ] N [ - ] N: N 0 to 9");
        goodCalls(AT + "by 9 -9;by -9 9;by 0 -0;", 3);
        goodCalls(AT + "by 009 0;by -09 0;by -000 0;", 3);
        badCalls(AT + "by 10 0;", 10, 2);
        badCalls(AT + "by 0 10;", 12, 2);
        badCalls(AT + "by -10 0;", 11, 2);
        badCalls(AT + "by 0 -10;", 13, 2);
        badCalls(AT + "by 999 0;", 10, 2);
        badCalls(AT + "by - - 1 0;", 12, 1);
        badCalls(AT + "by 1 0 -;", 14, 1);
        badCalls(AT + "by 1 -;", 13, 1);
        badCalls(AT + "by (1 0;", 10, 1);
    }

    private static void callsBy() {
        Check.part("Terms 1, CALLS: 3 to 8 of 'by'");
        goodCalls(AT + "by 1 0;".repeat(3), 3);
        goodCalls(AT + "by 1 0;".repeat(8), 8);
        badCalls(AT, 7, 1);
        badCalls(AT + "by 1 0;", 14, 1);
        badCalls(AT + "by 1 0;by 1 0; ", 22, 1);
        badCalls(AT + "by 1 0;".repeat(9), 63, 4);
        badCalls(AT + "by 1 0;".repeat(10), 63, 4);
    }

    private static void lineKinds() {
        Check.part("Terms 1, { LINE ; }: 'bell', 'out' or 'band', and a ; behind each");
        bad(HEAD + ";", 10, 1);
        bad(HEAD + "bell;;", 15, 1);
        bad(HEAD + "board 5 5;", 10, 1);
        bad(HEAD + "at 0 0;", 10, 1);
        bad(HEAD + "a 0 0 1 0 0 1;", 10, 1);
        bad(HEAD + "5;", 10, 1);
        bad(HEAD + "bell out 4 4;", 15, 1);
        bad(HEAD + "out 4 4 3 3;", 18, 1);
        bad(HEAD + "bell 1;", 15, 1);
        badCalls(GOOD_CALLS + ";", 30, 1);
        badCalls("at 0 0;;", 7, 1);
        badCalls("at 0 0 by 1 0;", 7, 1);
    }

    private static void firstAlong() {
        Check.part("Terms 1, FAULTS, the first along the text");
        bad("board 11 1;", 6, 2);
        bad("board 5 1", 8, 2);
        bad(HEAD + "bell;bell;out 9 9;x", 15, 3);
        bad(HEAD + "band b 0 0 1 0 2 0;band b;", 28, 5);
        bad(HEAD + EIGHT_CORNERS + " 0 1 9 9 ?", 49, 4);
        badCalls("at 9 x", 3, 2);
        badCalls(AT + "by 1 0;".repeat(8) + "by 99 ?", 63, 4);
    }

    private static void leastOfOneToken() {
        Check.part("Terms 1, FAULTS of one TOKEN the least");
        // 1 ahead of 4: what stands where a ninth corner, band, 'by' or a 13th out would.
        bad(HEAD + EIGHT_CORNERS + " b;", 49, 1);
        bad(HEAD + EIGHT_CORNERS + " 0000 0;", 49, 1);
        bad("board 10 10;bell;" + bands(8) + "bando", 17 + 8 * 19, 1);
        bad("board 10 10;" + outs(12) + "outs", 12 + 12 * 8, 1);
        badCalls(AT + "by 1 0;".repeat(8) + "at 1 0;", 63, 1);
        // 2 ahead of 4: a ninth corner's X that is not as told.
        bad(HEAD + EIGHT_CORNERS + " 5 0;", 49, 2);
        // 3 ahead of 4: a 13th PEG out behind a band.
        bad("board 10 10;" + outs(12) + "band b 7 7 8 7 7 8;out 9 9;", 12 + 12 * 8 + 19, 3);
        // 1 ahead of 5: no ; behind a band that would be wrong.
        bad(HEAD + "band b 0 0 1 0 2 0 bell;", 29, 1);
    }

    private static void atTheEnd() {
        Check.part("Terms 1, FAULT 1 at the end: how many bytes there are");
        String[] texts = {"board", "board 5", "board 5 5", "board 5 5;bell", "board 5 5;out", "board 5 5;out 1",
            "board 5 5;out 1 1", "board 5 5;band", "board 5 5;band b", "board 5 5;band b 0", "board 5 5;band b 0 0 1 0",
            "board 5 5;band b 0 0 1 0 0", "board 5 5;band b 0 0 1 0 0 1", "board 5 5;band b 0 0 1 0 0 1 1"};
        for (String text : texts) {
            bad(text, text.length(), 1);
            bad(text + " \n", text.length() + 2, 1);
        }
        String[] calls = {"", "at", "at 0", "at 0 0", AT, AT + "by", AT + "by -", AT + "by 1", AT + "by 1 -", AT + "by 1 1",
            AT + "by 1 1;by 1 1;", AT + "by 1 1;by 1 1;by 1 1"};
        for (String text : calls) {
            badCalls(text, text.length(), 1);
            badCalls(text + "\n ", text.length() + 2, 1);
        }
        // The board's end at the most bytes is the end as well.
        bad(HEAD + Check.blanks(586) + "bell", 600, 1);
    }

    private static void atTheMostBytes() {
        Check.part("Terms 1, FAULT 1 at the most bytes told, if there are more and no FAULT is ahead");
        bad(HEAD + Check.blanks(590) + "?", 600, 1);
        bad(HEAD + Check.blanks(590) + "bell;bell;", 600, 1);
        bad(HEAD + Check.blanks(600) + "out 9 9;", 600, 1);
        bad(HEAD + Check.blanks(586) + "out 1 1;", 600, 1);
        bad(HEAD + Check.blanks(589) + "?" + Check.blanks(20), 599, 1);
        bad("board 1 5;" + Check.blanks(630), 6, 2);
        bad(Check.blanks(601), 600, 1);
        bad(Check.blanks(600), 600, 1);
        bad(Check.blanks(599), 599, 1);
        badCalls(GOOD_CALLS + Check.blanks(270) + "?", 300, 1);
        badCalls(GOOD_CALLS + Check.blanks(269) + "?" + Check.blanks(9), 299, 1);
        badCalls("at 9 9;" + Check.blanks(300), 3, 2);
        badCalls(Check.blanks(301), 300, 1);
    }

    private static void readWhole() {
        Check.part("Terms 1, TOKENS that begin ahead of the most bytes are read whole");
        // A word that begins at 599 and can come: nothing is wrong ahead of 600.
        bad(HEAD + Check.blanks(589) + "bell;", 600, 1);
        bad(HEAD + Check.blanks(590) + "bell;", 600, 1);
        bad(HEAD + Check.blanks(589) + "belly;", 599, 1);
        bad(HEAD + Check.blanks(590) + "belly;", 600, 1);
        // A number that begins at 599: 1 would be fine, 10 is not below W.
        bad(HEAD + Check.blanks(585) + "out 10 1;", 599, 2);
        bad(HEAD + Check.blanks(586) + "out 10 1;", 600, 1);
        bad(HEAD + Check.blanks(585) + "out 0001 1;", 599, 1);
        // The ; at 599 closes a band that is wrong; at 600 it is not read.
        bad(HEAD + Check.blanks(571) + "band b 0 0 1 1 2 2;  ", 599, 5);
        bad(HEAD + Check.blanks(572) + "band b 0 0 1 1 2 2;  ", 600, 1);
        badCalls(GOOD_CALLS + Check.blanks(269) + "by 1 0;", 300, 1);
        badCalls(GOOD_CALLS + Check.blanks(269) + "bye 1 0;", 299, 1);
        badCalls(GOOD_CALLS + Check.blanks(266) + "by 10 0;", 299, 2);
        badCalls(GOOD_CALLS + Check.blanks(267) + "by 10 0;", 300, 1);
    }

    private static void faultTwo() {
        Check.part("Terms 1, FAULT 2: a NUMBER that is not as told (at it)");
        bad("board  01 5;", 7, 2);
        bad("board 5  011;", 9, 2);
        bad(HEAD + "out  5 0;", 15, 2);
        bad(HEAD + "out 0  5;", 17, 2);
        bad(HEAD + "band b 0 0 1 0 0 1  5 1;", 30, 2);
        badCalls("at  3 0;", 4, 2);
        badCalls(AT + "by -  10 0;", 13, 2);
    }

    private static void faultThree() {
        Check.part("Terms 1, FAULT 3: a NAME told twice, a PEG out already (at Y), the bell again, a PEG out behind a band");
        bad(HEAD + ONE + "band  a 3 3 4 3 3 4;", 35, 3);
        bad(HEAD + "out 1 2;out 1  2;", 25, 3);
        bad(HEAD + "bell; bell;", 16, 3);
        bad(HEAD + ONE + " out 4 4;", 30, 3);
        // At its WORD already, so what stands behind it is not looked at.
        bad(HEAD + ONE + "out", 29, 3);
        bad(HEAD + ONE + "out 9 9;", 29, 3);
        bad(HEAD + "bell;bell", 15, 3);
        bad(HEAD + "out 1 2;out 1 2", 24, 3);
        bad(HEAD + ONE + "band a", 34, 3);
    }

    private static void faultFour() {
        Check.part("Terms 1, FAULT 4: a ninth BAND, a 13th PEG out, a ninth 'by' (at the LINE's first WORD), a ninth corner (at its X)");
        bad("board 10 10;bell;" + bands(8) + " band z 0 0 1 0 0 1;", 18 + 8 * 19, 4);
        bad("board 10 10;" + outs(12) + " out 9 9;", 13 + 12 * 8, 4);
        badCalls(AT + "by 1 0;".repeat(8) + " by 1 0;", 64, 4);
        bad(HEAD + EIGHT_CORNERS + "  0 1;", 50, 4);
        bad(HEAD + EIGHT_CORNERS + " 0", 49, 4);
        // A ninth band whose name was told is a ninth band first.
        bad("board 10 10;bell;" + bands(8) + "band b 0 0 1 0 0 1;", 17 + 8 * 19, 4);
    }

    private static void faultFive() {
        Check.part("Terms 1, FAULT 5: a BAND that is WRONG (at the ; behind it)");
        bad(HEAD + "band b 0 0 1 0 2 0;", 28, 5);
        bad(HEAD + "band b 0 0 1 0 2 0 ; bell;", 29, 5);
        bad(HEAD + ONE + "band b 1 0 2 0 2 1;", 47, 5);
        bad(HEAD + "out 0 1;" + ONE, 36, 5);
    }
}
