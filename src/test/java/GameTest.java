/** Promises 35 to 38: the game of two who lay lines. */
public final class GameTest {
    private static final int LEAST = Integer.MIN_VALUE;
    private static final int MOST = Integer.MAX_VALUE;

    public static void main(String[] args) {
        noGame();
        fourPegs();
        rules();
        gaps();
        anew();
        nothingToLay();
        Check.finish();
    }

    private static void lines(PegBands x, int... due) {
        Check.due("lines(NONE)", x.lines(-1), due.length);
        for (int k = 0; k < due.length; k++) {
            Check.due("lines(" + k + ")", x.lines(k), due[k]);
        }
        Check.due("lines behind", x.lines(due.length), -1);
        Check.due("lines(-2)", x.lines(-2), -1);
        Check.due("lines(least)", x.lines(LEAST), -1);
        Check.due("lines(most)", x.lines(MOST), -1);
    }

    private static void none(PegBands x) {
        Check.due("no line", x.line(0, 1), false);
        Check.due("no lines", x.lines(-1), -1);
        Check.due("no lines", x.lines(0), -1);
        Check.due("nobody wins", x.wins(), -2);
        Check.due("nothing lies", x.again(), 0);
    }

    private static void noGame() {
        none(new PegBands());
        none(Check.on("board 5 2;"));
        none(Check.on("board 10 10;"));
        none(Check.on("board 4 3;out 0 0;out 1 0;"));
        Check.due("nine pegs", Check.on("board 4 3;out 0 0;out 1 0;out 2 0;").lines(-1) > 0, true);
        Check.due("nine pegs", Check.on("board 3 3;").lines(-1), 28);
    }

    private static void fourPegs() {
        PegBands x = Check.on("board 2 2;");
        lines(x, 1, 10, 11, 110, 111, 1011);
        Check.due("a diagonal hinders all", x.wins(), 11);
        Check.due("lay", x.line(1, 0), true);
        lines(x, 1011);
        Check.due("the last line wins", x.wins(), 1011);
        Check.due("count", x.count(6), 1);
        Check.due("laid already", x.line(0, 1), false);
        Check.due("an end twice", x.line(1, 11), false);
        Check.due("lay", x.line(10, 11), true);
        lines(x);
        Check.due("by none", x.wins(), -1);
        Check.due("count", x.count(6), 2);
    }

    private static void rules() {
        PegBands x = Check.on("board 3 3;");
        int[][] no = {{0, 0}, {0, 2}, {0, 22}, {2, 20}, {1, 21}, {0, 3}, {0, 30}, {-1, 0}, {0, -1},
            {LEAST, MOST}, {MOST, MOST}, {0, MOST}, {LEAST, 0}};
        for (int[] pair : no) {
            Check.due("line(" + pair[0] + ", " + pair[1] + ")", x.line(pair[0], pair[1]), false);
        }
        Check.due("nothing lies", x.count(6), 0);
        Check.due("over two rows", x.line(0, 21), true);
        Check.due("crosses it", x.line(10, 11), false);
        Check.due("crosses it", x.line(10, 1), false);
        Check.due("beside it", x.line(20, 10), true);
        Check.due("touches neither", x.line(22, 11), true);
        lines(x, 102, 112, 212);
        Check.due("last but", x.wins(), 102);
        Check.due("lay", x.line(12, 1), true);
        lines(x);
    }

    private static void gaps() {
        PegBands x = Check.on("board 3 2;out 1 0;");
        Check.due("over a peg that is out", x.line(0, 2), false);
        Check.due("to a peg that is out", x.line(0, 1), false);
        lines(x, 10, 11, 12, 210, 211, 212, 1011, 1112);
    }

    private static void anew() {
        PegBands x = Check.on("board 2 2;");
        Check.due("lay", x.line(0, 11), true);
        Check.due("crosses it", x.line(1, 10), false);
        Check.due("again", x.again(), 1);
        Check.due("count", x.count(6), 0);
        Check.due("nothing lies", x.again(), 0);
        Check.due("lay", x.line(1, 10), true);
        Check.due("a board", Check.board(x, "board 2 2;"), 1);
        Check.due("begins without lines", x.count(6), 0);
        Check.due("all six", x.lines(-1), 6);
        Check.due("bands never hinder", Check.on("board 2 2;band a 0 0 1 0 0 1;").lines(-1), 6);
    }

    private static void nothingToLay() {
        PegBands x = Check.on("board 2 2;out 0 0;out 1 0;out 0 1;");
        lines(x);
        Check.due("by none", x.wins(), -1);
        PegBands y = Check.on("board 2 2;out 0 0;out 1 0;out 0 1;out 1 1;");
        lines(y);
        Check.due("by none", y.wins(), -1);
        PegBands z = Check.on("board 3 2;out 1 0;out 1 1;");
        // Two columns apart: 0 and 2 have a place between, 0 and 10 are next to one another.
        lines(z, 10, 12, 210, 212);
        Check.due("crossing lines leave none", z.wins(), 12);
    }
}
