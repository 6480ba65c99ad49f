import java.util.ArrayList;
import java.util.Collections;
import java.util.Comparator;
import java.util.List;
import java.util.NoSuchElementException;
import java.util.Random;

/** Runs of calls by lot, the same ones each time, answered by the class and by the model. */
public final class ModelTest {
    private static final int[] WILD = {-1, -2, Integer.MIN_VALUE, Integer.MAX_VALUE, 100, 8, 10, 1000, -10};
    private static final String NAMES = "abcdefgh";

    private final Random lot;
    private PegBands x = new PegBands();
    private Model m = new Model();
    private final List<String> told = new ArrayList<>();
    private boolean isWrong = false;

    private ModelTest(long seed) {
        lot = new Random(seed);
    }

    public static void main(String[] args) {
        int runs = args.length > 0 ? Integer.parseInt(args[0]) : 300;
        long first = args.length > 1 ? Long.parseLong(args[1]) : 1;
        for (long seed = first; seed < first + runs; seed++) {
            new ModelTest(seed).run(seed);
            new ModelTest(-seed).survey(-seed);
        }
        Check.finish();
    }

    private void run(long seed) {
        for (int i = 0; i < 500 && !isWrong; ) {
            i += step();
        }
        tellWrong(seed);
    }

    /** All that can be asked of the bands of one board. */
    private void survey(long seed) {
        for (int tries = 0; tries < 5 && m.s.bands().isEmpty(); tries++) {
            tell(aBoard(8));
            same("board()", x.board(), m.board());
            faults();
        }
        for (int b = 0; b < m.s.bands().size(); b++) {
            surveyBand(b);
            for (int other = 0; other < m.s.bands().size(); other++) {
                surveyTwo(b, other);
            }
        }
        for (int at = 0; at < 100; at++) {
            same("peg(" + at + ")", x.peg(at), m.peg(at));
            same("over(" + at + ", 0)", x.over(at, 0), m.over(at, 0));
            same("over(" + at + ", 1)", x.over(at, 1), m.over(at, 1));
        }
        for (int i = 0; i < 5; i++) {
            sentenceText();
            for (int k = -1; k < 9; k++) {
                same("said(" + k + ")", x.said(k), m.said(k));
            }
            callsText();
            for (int k = -1; k < 9; k++) {
                same("mended(" + k + ")", x.mended(k), m.mended(k));
            }
        }
        same("free()", x.free(), m.free());
        tellWrong(seed);
    }

    private void surveyBand(int b) {
        for (int what = 0; what < 7; what++) {
            askBand(b, what);
        }
        for (int i = 0; i < 9; i++) {
            same("corner(" + b + ", " + i + ")", x.corner(b, i), m.corner(b, i));
            same("side(" + b + ", " + i + ")", x.side(b, i), m.side(b, i));
        }
        for (int how = 0; how < 4; how++) {
            same("form(" + b + ", " + how + ")", x.form(b, how), m.form(b, how));
            for (int i = 0; i < 17; i++) {
                same("formAt(" + i + ")", x.formAt(i), m.formAt(i));
            }
            same("even(" + b + ", " + how + ")", x.even(b, how), m.even(b, how));
            same("rim(" + b + ", " + how + ")", x.rim(b, how), m.rim(b, how));
        }
        same("wide(" + b + ")", x.wide(b), m.wide(b));
        same("write(" + b + ")", x.write(b), m.write(b));
        for (int i = 0; i < 81; i++) {
            same("byteAt(" + i + ")", x.byteAt(i), m.byteAt(i));
        }
        int cuts = x.cuts(b, -1);
        for (int k = -1; k <= cuts; k++) {
            same("cuts(" + b + ", " + k + ")", x.cuts(b, k), m.cuts(b, k));
        }
    }

    private void surveyTwo(int b, int other) {
        String bands = "(" + b + ", " + other + ")";
        for (int how = 0; how < 3; how++) {
            same("cross" + bands + how, x.cross(b, other, how), m.cross(b, other, how));
            same("alike" + bands + how, x.alike(b, other, how), m.alike(b, other, how));
        }
        same("in" + bands, x.in(b, other), m.in(b, other));
        same("moved" + bands, x.moved(b, other), m.moved(b, other));
    }

    private void tellWrong(long seed) {
        if (isWrong) {
            System.out.println("run " + seed + ":");
            for (String row : told.subList(Math.max(0, told.size() - 60), told.size())) {
                System.out.println("  " + row);
            }
        }
    }

    private void same(String call, long got, long want) {
        told.add(call + " -> " + got);
        Check.due(call, got, want);
        isWrong |= got != want;
    }

    private void same(String call, boolean got, boolean want) {
        same(call, got ? 1 : 0, want ? 1 : 0);
    }

    // ---- what calls are given

    private int pick(int below) {
        return lot.nextInt(Math.max(1, below));
    }

    private int number(int below) {
        return pick(25) == 0 ? WILD[pick(WILD.length)] : pick(below);
    }

    private int aBand() {
        return pick(12) == 0 ? number(9) : number(m.s.bands().size());
    }

    private int aPlace() {
        return pick(10) == 0 ? number(100) : 10 * pick(m.s.h()) + pick(m.s.w());
    }

    private int aK(int below) {
        return pick(3) == 0 ? -1 : number(below);
    }

    // ---- one call, or a text and its reading

    private int step() {
        if (m.s.w() == 0 && pick(10) < 9) {
            return boardText();
        }
        switch (pick(46)) {
            case 0:
                return pick(4) == 0 ? boardText() : 0;
            case 1:
            case 2:
                return callsText();
            case 3:
            case 4:
                return sentenceText();
            case 5:
                return looseTape();
            default:
                question(pick(40));
                return 1;
        }
    }

    private int tell(String text) {
        int calls = 1;
        same("end(0)", x.end(0), m.end(0));
        for (int i = 0; i < text.length(); i += 20) {
            int[] f = new int[5];
            for (int j = 0; j < 20; j++) {
                int c = i + j < text.length() ? text.charAt(i + j) : 0;
                f[j / 4] |= (c & 255) << (24 - 8 * (j % 4));
            }
            same("feed", x.feed(f[0], f[1], f[2], f[3], f[4]), m.feed(f));
            calls++;
        }
        same("end(" + text.length() + ")", x.end(text.length()), m.end(text.length()));
        told.add("tape '" + text + "'");
        return calls + 1;
    }

    private int looseTape() {
        int[] f = {lot.nextInt(), lot.nextInt(), lot.nextInt(), lot.nextInt(), lot.nextInt()};
        same("feed", x.feed(f[0], f[1], f[2], f[3], f[4]), m.feed(f));
        int n = number(700);
        same("end(" + n + ")", x.end(n), m.end(n));
        return 2;
    }

    private int boardText() {
        int calls = tell(spoil(aBoard(4), 600));
        same("board()", x.board(), m.board());
        faults();
        return calls + 3;
    }

    private int callsText() {
        int calls = tell(spoil(someCalls(), 300));
        same("calls()", x.calls(), m.calls());
        faults();
        return calls + 3;
    }

    private int sentenceText() {
        int calls = tell(spoil(aCond(pick(6)), 200));
        same("sentence()", x.sentence(), m.sentence());
        faults();
        return calls + 3;
    }

    private void faults() {
        same("fault()", x.fault(), m.fault);
        same("why()", x.why(), m.why);
    }

    /** Most texts stay as they are. */
    private String spoil(String text, int most) {
        StringBuilder t = new StringBuilder(text);
        int how = pick(16);
        if (how < 4 && t.length() > 0) {
            int at = pick(t.length());
            String signs = " \n;-<=>().019abz?A" + (char) 200;
            char c = signs.charAt(pick(signs.length()));
            if (how == 0) {
                t.deleteCharAt(at);
            } else if (how == 1) {
                t.insert(at, c);
            } else if (how == 2) {
                t.setCharAt(at, c);
            } else {
                t.setLength(at);
            }
        } else if (how == 4) {
            int at = pick(t.length() + 1);
            while (t.length() < most - 3 + pick(8) && t.length() < 630) {
                t.insert(at, pick(9) == 0 ? '\n' : ' ');
            }
        } else if (how == 5 && t.length() < 250) {
            t.append(t);
        }
        t.setLength(Math.min(t.length(), 640));
        return t.toString();
    }

    private String aBoard(int kinds) {
        int kind = pick(kinds);
        int w = kind == 0 ? 2 + pick(9) : kind == 1 ? 2 + pick(2) : kind < 4 ? 4 + pick(4) : 7 + pick(4);
        int h = kind == 0 ? 2 + pick(9) : kind == 1 ? 2 + pick(2) : kind < 4 ? 4 + pick(4) : 7 + pick(4);
        StringBuilder t = new StringBuilder("board " + w + " " + h + ";");
        boolean bell = pick(2) == 0;
        if (bell) {
            t.append("bell;");
        }
        int outs = pick(5) == 0 ? pick(14) : pick(3);
        for (int i = 0; i < outs; i++) {
            t.append("out " + pick(w) + " " + pick(h) + ";");
        }
        // A model of its own says which bands fit there.
        Model d = new Model();
        tellModel(d, t.toString());
        int bands = pick(6) == 0 ? pick(11) : pick(5);
        for (int i = 0; i < bands && d.s.w() > 0; i++) {
            if (pick(20) == 0) {
                t.append("bell;");
            }
            String band = aBand(d, i);
            t.append(band);
            tellModel(d, t.toString());
        }
        return t.toString();
    }

    private static void tellModel(Model d, String text) {
        d.tape = new ArrayList<>();
        for (char c : text.toCharArray()) {
            d.tape.add((int) c);
        }
        d.board();
    }

    private String aBand(Model d, int i) {
        List<Model.P> corners = new ArrayList<>();
        int n = 3 + (pick(3) == 0 ? 0 : pick(6));
        // The first band is often large, so that others lie in it.
        boolean isLarge = i == 0 && pick(2) == 0;
        for (int tries = 0; tries < 300; tries++) {
            corners.clear();
            int reach = isLarge ? 10 : 2 + pick(5);
            int x0 = pick(d.s.w() - reach / 2);
            int y0 = pick(d.s.h() - reach / 2);
            for (int c = 0; c < n; c++) {
                corners.add(new Model.P(Math.min(x0 + pick(reach), d.s.w() - 1), Math.min(y0 + pick(reach), d.s.h() - 1)));
            }
            if (pick(3) > 0) {
                goRound(corners, x0 + reach / 2.0 + 0.1, y0 + reach / 2.0 + 0.07);
            }
            if (d.wrong(d.s, corners, null, 5) == 0 || pick(300) == 0) {
                break;
            }
        }
        String name = pick(30) == 0 ? "in" : "" + NAMES.charAt(pick(30) == 0 ? 0 : i % 8);
        StringBuilder t = new StringBuilder("band " + name);
        for (Model.P p : corners) {
            t.append(" " + p.x() + " " + p.y());
        }
        return t.append(";").toString();
    }

    /** Corners that go round a point seldom make a knot. */
    private void goRound(List<Model.P> corners, double x0, double y0) {
        corners.sort(Comparator.comparingDouble(p -> Math.atan2(p.y() - y0, p.x() - x0)));
        if (pick(2) == 0) {
            Collections.reverse(corners);
        }
        Collections.rotate(corners, pick(corners.size()));
    }

    private String someCalls() {
        if (m.s.bands().size() > 0 && pick(3) > 0) {
            Model.Band b = m.s.bands().get(pick(m.s.bands().size()));
            Model.P first = b.at(0);
            int shiftX = pick(3) - 1;
            int shiftY = pick(3) - 1;
            StringBuilder t = new StringBuilder("at " + Math.max(0, first.x() + shiftX) + " " + Math.max(0, first.y() + shiftY) + ";");
            int odd = pick(2) == 0 ? -1 : pick(b.n());
            for (int i = 0; i < b.n(); i++) {
                Model.P way = b.at(i + 1).minus(b.at(i));
                int moreX = i == odd ? pick(3) - 1 : 0;
                t.append("by " + Math.max(-9, way.x() + moreX) + " " + way.y() + ";");
            }
            return t.toString();
        }
        StringBuilder t = new StringBuilder("at " + pick(m.s.w()) + " " + pick(m.s.h()) + ";");
        int n = 3 + pick(4) + (pick(8) == 0 ? pick(4) : 0);
        int sumX = 0;
        int sumY = 0;
        for (int i = 0; i < n; i++) {
            boolean isLast = i == n - 1 && pick(2) == 0 && Math.abs(sumX) < 10 && Math.abs(sumY) < 10;
            int dx = isLast ? -sumX : pick(7) - 3;
            int dy = isLast ? -sumY : pick(7) - 3;
            sumX += dx;
            sumY += dy;
            t.append("by " + dx + " " + dy + ";");
        }
        return t.toString();
    }

    private String aCond(int depth) {
        StringBuilder t = new StringBuilder(aOne(depth));
        for (int i = pick(3); i > 0; i--) {
            t.append(pick(2) == 0 ? " or " : " and ").append(aOne(depth));
        }
        return t.toString();
    }

    private String aOne(int depth) {
        int how = pick(depth > 0 ? 9 : 6);
        List<String> names = new ArrayList<>(m.names());
        String name = names.isEmpty() || pick(15) == 0 ? "" + NAMES.charAt(pick(8)) : names.get(pick(names.size()));
        switch (how) {
            case 0:
                return "in " + name;
            case 1:
                return "alike " + name;
            case 2:
                return "bent";
            case 6:
                return "not " + aOne(depth - 1);
            case 7:
                return "(" + aCond(depth - 1) + ")";
            case 8:
                return "not(" + aCond(depth - 1) + ")";
            default:
                String[] words = {"area", "on", "within", "corners", "right"};
                int word = pick(5);
                int[] below = {40, 20, 10, 8, 5};
                return words[word] + "<=>".charAt(pick(3)) + pick(below[word]);
        }
    }

    // ---- questions

    private void question(int which) {
        int b = aBand();
        int other = aBand();
        int what = number(7);
        int how = number(3);
        int i = number(8);
        int at = aPlace();
        String bands = "(" + b + ", " + other + ")";
        switch (which) {
            case 0:
                same("peg(" + at + ")", x.peg(at), m.peg(at));
                break;
            case 1:
            case 2:
                askBand(b, what);
                break;
            case 3:
                same("corner(" + b + ", " + i + ")", x.corner(b, i), m.corner(b, i));
                break;
            case 4:
                same("side(" + b + ", " + i + ")", x.side(b, i), m.side(b, i));
                break;
            case 5:
                same("over(" + at + ", " + how + ")", x.over(at, how), m.over(at, how));
                break;
            case 6:
                same("cross" + bands + how, x.cross(b, other, how), m.cross(b, other, how));
                break;
            case 7:
                same("in" + bands, x.in(b, other), m.in(b, other));
                break;
            case 8:
                same("alike" + bands + how, x.alike(b, other, how), m.alike(b, other, how));
                break;
            case 9:
                same("form(" + b + ", " + how + ")", x.form(b, how), m.form(b, how));
                break;
            case 10:
                for (int k = -1; k < 17; k++) {
                    same("formAt(" + k + ")", x.formAt(k), m.formAt(k));
                }
                break;
            case 11:
            case 12:
                same("move(" + b + ", " + i % 4 + ", " + at + ")", x.move(b, i % 4, at), m.move(b, i % 4, at));
                break;
            case 13:
            case 14:
                askSlide(b);
                break;
            case 15:
                if (pick(4) == 0) {
                    same("snap(" + b + ")", x.snap(b), m.snap(b));
                }
                break;
            case 16:
                same("undo()", x.undo(), m.undo());
                break;
            case 17:
                same("free()", x.free(), m.free());
                break;
            case 18:
                same("rim(" + b + ", " + what + ")", x.rim(b, what), m.rim(b, what));
                break;
            case 19:
                same("even(" + b + ", " + how + ")", x.even(b, how), m.even(b, how));
                break;
            default:
                moreQuestions(which, b, other);
                break;
        }
    }

    private void askBand(int b, int what) {
        Integer due = m.band(b, what);
        int got = 0;
        boolean isThrown = false;
        try {
            got = x.band(b, what);
        } catch (NoSuchElementException e) {
            isThrown = true;
        }
        same("band(" + b + ", " + what + ") throws", isThrown, due == null);
        if (due != null) {
            same("band(" + b + ", " + what + ")", got, due);
        }
    }

    private void askSlide(int b) {
        int dx = pick(20) == 0 ? WILD[pick(WILD.length)] : pick(5) - 2;
        int dy = pick(20) == 0 ? WILD[pick(WILD.length)] : pick(5) - 2;
        same("slide(" + b + ", " + dx + ", " + dy + ")", x.slide(b, dx, dy), m.slide(b, dx, dy));
    }

    private void moreQuestions(int which, int b, int other) {
        int k = aK(8);
        int place = number(2);
        switch (which) {
            case 20:
                same("wide(" + b + ")", x.wide(b), m.wide(b));
                break;
            case 21:
                same("closes()", x.closes(), m.closes());
                break;
            case 22:
            case 23:
                same("mended(" + k + ")", x.mended(k), m.mended(k));
                break;
            case 24:
            case 25:
                same("lay()", x.lay(), m.lay());
                break;
            case 26:
                same("write(" + b + ")", x.write(b), m.write(b));
                break;
            case 27:
                for (int i = -1; i < 81; i++) {
                    same("byteAt(" + i + ")", x.byteAt(i), m.byteAt(i));
                }
                break;
            case 28:
                askTriangles(k);
                break;
            case 29:
            case 30:
                same("cuts(" + b + ", " + k + ")", x.cuts(b, k), m.cuts(b, k));
                break;
            case 31:
                same("moved(" + b + ", " + other + ")", x.moved(b, other), m.moved(b, other));
                break;
            case 32:
            case 33:
                askGame(k);
                break;
            case 34:
                same("again()", x.again(), m.again());
                break;
            case 35:
            case 36:
                same("said(" + k + ")", x.said(k), m.said(k));
                break;
            case 37:
                same("image(" + place + ")", x.image(place), m.image(place));
                break;
            case 38:
                same("restore(" + place + ")", x.restore(place), m.restore(place));
                break;
            default:
                for (int c = -1; c < 9; c++) {
                    same("count(" + c + ")", x.count(c), m.count(c));
                }
                break;
        }
    }

    private void askTriangles(int k) {
        // The model is too slow for large boards.
        if (m.s.w() * m.s.h() > 20) {
            return;
        }
        int on = pick(20) == 0 ? WILD[pick(WILD.length)] : 3 + pick(4);
        int within = pick(20) == 0 ? WILD[pick(WILD.length)] : pick(3);
        String args = "(" + on + ", " + within + ")";
        same("triangles" + args + k, x.triangles(on, within, k), m.triangles(on, within, k));
        same("smallest" + args, x.smallest(on, within), m.smallest(on, within));
    }

    private void askGame(int k) {
        int a = aPlace();
        int b = aPlace();
        same("line(" + a + ", " + b + ")", x.line(a, b), m.line(a, b));
        same("lines(" + k + ")", x.lines(k), m.lines(k));
        same("wins()", x.wins(), m.wins());
    }
}
