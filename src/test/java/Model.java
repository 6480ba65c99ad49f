import java.util.ArrayDeque;
import java.util.ArrayList;
import java.util.Arrays;
import java.util.Collections;
import java.util.HashMap;
import java.util.HashSet;
import java.util.LinkedHashSet;
import java.util.List;
import java.util.Map;
import java.util.Set;
import java.util.TreeSet;

/** The document told once more, slowly and by other ways than the class goes, to compare answers with. */
final class Model {
    static final int NONE = -1;
    static final List<String> TOLD = Arrays.asList(("board bell out band at by or and not in alike bent area on within "
        + "corners right").split(" "));

    /** A point with whole numbers. */
    record P(int x, int y) {
        P minus(P o) {
            return new P(x - o.x, y - o.y);
        }

        int peg() {
            return 10 * y + x;
        }
    }

    record Band(String name, List<P> corners) {
        int n() {
            return corners.size();
        }

        P at(int i) {
            return corners.get(Math.floorMod(i, n()));
        }
    }

    record Token(String kind, String text, int place) {
    }

    static final class Fault extends Exception {
        private static final long serialVersionUID = 1;
        final int kind;
        final int place;
        final int why;

        Fault(int kind, int place, int why) {
            this.kind = kind;
            this.place = place;
            this.why = why;
        }
    }

    interface Cond {
        boolean of(Band band);
    }

    /** All that images keep; nothing in it is changed in place. */
    record State(int w, int h, boolean bell, Set<P> out, List<Band> bands, List<P> calls, List<List<P>> lines,
                 List<Token> sentence) {
    }

    State s = new State(0, 0, false, Set.of(), List.of(), null, List.of(), null);
    List<Integer> tape = new ArrayList<>();
    List<List<Band>> past = new ArrayList<>();
    State[] images = new State[2];
    List<Integer> form = List.of();
    String text = "";
    int fault = 0;
    int why = 0;

    // ---- tokens

    static List<Token> tokens(List<Integer> bytes, int most) {
        StringBuilder b = new StringBuilder();
        for (int c : bytes) {
            b.append((char) c);
        }
        String t = b.toString();
        List<Token> all = new ArrayList<>();
        int i = 0;
        while (i < t.length() && i < most) {
            int j = i + 1;
            String c = t.substring(i, j);
            if (c.matches("[a-z0-9]")) {
                while (j < t.length() && t.substring(j, j + 1).matches("[a-z0-9]")) {
                    j++;
                }
                String run = t.substring(i, j);
                String kind = run.matches("[0-9]{1,3}") ? "number" : run.matches("[a-z]{1,7}") ? "word" : "bad";
                all.add(new Token(kind, run, i));
            } else if (!c.matches("[ \n]")) {
                all.add(new Token(";-<=>()".contains(c) ? "sign" : "bad", c, i));
            }
            i = j;
        }
        all.add(t.length() > most ? new Token("bad", "", most) : new Token("end", "", t.length()));
        return all;
    }

    /** Goes along the tokens. */
    static final class Walk {
        final List<Token> all;
        int next = 0;

        Walk(List<Token> all) {
            this.all = all;
        }

        Token look() {
            return all.get(next);
        }

        boolean is(String text) {
            String kind = look().kind;
            return (kind.equals("word") || kind.equals("sign")) && look().text.equals(text);
        }

        boolean isEnd() {
            return look().kind.equals("end");
        }

        Fault fault(int kind) {
            return new Fault(kind, look().place, 0);
        }

        void want(String text) throws Fault {
            if (!is(text)) {
                throw fault(1);
            }
            next++;
        }

        int peekNumber(int least, int most) throws Fault {
            if (!look().kind.equals("number")) {
                throw fault(1);
            }
            int v = Integer.parseInt(look().text);
            if (v < least || v > most) {
                throw fault(2);
            }
            return v;
        }

        int number(int least, int most) throws Fault {
            int v = peekNumber(least, most);
            next++;
            return v;
        }

        String peekName() throws Fault {
            if (!look().kind.equals("word") || TOLD.contains(look().text)) {
                throw fault(1);
            }
            return look().text;
        }
    }

    private int told(Fault f) {
        tape = new ArrayList<>();
        fault = f == null ? 0 : f.kind;
        if (f != null && f.kind == 5) {
            why = f.why;
        }
        return f == null ? 0 : -1 - f.place;
    }

    // ---- texts

    int board() {
        try {
            Walk k = new Walk(tokens(tape, 600));
            k.want("board");
            int w = k.number(2, 10);
            int h = k.number(2, 10);
            k.want(";");
            State d = new State(w, h, false, Set.of(), List.of(), null, List.of(), null);
            int lines = 1;
            while (!k.isEnd()) {
                d = line(k, d);
                lines++;
            }
            s = d;
            past = new ArrayList<>();
            told(null);
            return lines;
        } catch (Fault f) {
            return told(f);
        }
    }

    private State line(Walk k, State d) throws Fault {
        boolean bell = d.bell;
        Set<P> out = new HashSet<>(d.out);
        List<Band> bands = new ArrayList<>(d.bands);
        if (k.is("bell")) {
            if (bell) {
                throw k.fault(3);
            }
            bell = true;
            k.next++;
        } else if (k.is("out")) {
            if (!bands.isEmpty()) {
                throw k.fault(3);
            }
            if (out.size() == 12) {
                throw k.fault(4);
            }
            k.next++;
            int x = k.number(0, d.w - 1);
            int y = k.peekNumber(0, d.h - 1);
            if (!out.add(new P(x, y))) {
                throw k.fault(3);
            }
            k.next++;
        } else if (k.is("band")) {
            if (bands.size() == 8) {
                throw k.fault(4);
            }
            k.next++;
            String name = k.peekName();
            for (Band b : bands) {
                if (b.name.equals(name)) {
                    throw k.fault(3);
                }
            }
            k.next++;
            List<P> corners = new ArrayList<>();
            while (corners.size() < 3 || !k.is(";")) {
                int x = k.peekNumber(0, d.w - 1);
                if (corners.size() == 8) {
                    throw k.fault(4);
                }
                k.next++;
                corners.add(new P(x, k.number(0, d.h - 1)));
            }
            int wrong = wrong(d, corners, null, 5);
            if (wrong != 0) {
                throw new Fault(5, k.look().place, wrong);
            }
            bands.add(new Band(name, corners));
        } else {
            throw k.fault(1);
        }
        k.want(";");
        return new State(d.w, d.h, bell, out, bands, null, List.of(), null);
    }

    int calls() {
        try {
            Walk k = new Walk(tokens(tape, 300));
            List<P> told = new ArrayList<>();
            k.want("at");
            int x = k.number(0, s.w - 1);
            told.add(new P(x, k.number(0, s.h - 1)));
            k.want(";");
            while (told.size() < 4 || !k.isEnd()) {
                if (k.is("by") && told.size() == 9) {
                    throw k.fault(4);
                }
                k.want("by");
                int dx = signed(k);
                told.add(new P(dx, signed(k)));
                k.want(";");
            }
            s = new State(s.w, s.h, s.bell, s.out, s.bands, told, s.lines, s.sentence);
            told(null);
            return told.size() - 1;
        } catch (Fault f) {
            return told(f);
        }
    }

    private static int signed(Walk k) throws Fault {
        if (k.is("-")) {
            k.next++;
            return -k.number(0, 9);
        }
        return k.number(0, 9);
    }

    int sentence() {
        try {
            List<Token> all = tokens(tape, 200);
            Walk k = new Walk(all);
            int[] ones = new int[1];
            any(k, ones, 1, false);
            if (!k.isEnd()) {
                throw k.fault(1);
            }
            s = new State(s.w, s.h, s.bell, s.out, s.bands, s.calls, s.lines, all);
            told(null);
            return ones[0];
        } catch (Fault f) {
            return told(f);
        }
    }

    private Cond any(Walk k, int[] ones, int depth, boolean again) throws Fault {
        Cond c = all(k, ones, depth, again);
        while (k.is("or")) {
            k.next++;
            Cond a = c;
            Cond b = all(k, ones, depth, again);
            c = x -> a.of(x) || b.of(x);
        }
        return c;
    }

    private Cond all(Walk k, int[] ones, int depth, boolean again) throws Fault {
        Cond c = one(k, ones, depth, again);
        while (k.is("and")) {
            k.next++;
            Cond a = c;
            Cond b = one(k, ones, depth, again);
            c = x -> a.of(x) && b.of(x);
        }
        return c;
    }

    private static final List<String> MEASURES = List.of("area", "on", "within", "corners", "right");

    private Cond one(Walk k, int[] ones, int depth, boolean again) throws Fault {
        String first = k.look().text;
        boolean begins = k.is("not") || k.is("(") || k.is("in") || k.is("alike") || k.is("bent")
            || k.look().kind.equals("word") && MEASURES.contains(first);
        if (!begins) {
            throw k.fault(1);
        }
        if (ones[0] == 20 || depth == 9) {
            throw k.fault(4);
        }
        ones[0]++;
        k.next++;
        if (first.equals("not")) {
            Cond c = one(k, ones, depth + 1, again);
            return x -> !c.of(x);
        }
        if (first.equals("(")) {
            Cond c = any(k, ones, depth + 1, again);
            k.want(")");
            return c;
        }
        if (first.equals("bent")) {
            return x -> bent(x) > 0;
        }
        if (MEASURES.contains(first)) {
            String sign = k.look().text;
            if (!k.is("<") && !k.is("=") && !k.is(">")) {
                throw k.fault(1);
            }
            k.next++;
            int number = k.number(0, 999);
            return x -> {
                int m = measure(first, x);
                return sign.equals("<") ? m < number : sign.equals("=") ? m == number : m > number;
            };
        }
        String name = k.peekName();
        Band named = null;
        for (Band b : s.bands) {
            if (name.equals(b.name)) {
                named = b;
            }
        }
        if (named == null && !again) {
            throw k.fault(3);
        }
        k.next++;
        Band other = named;
        return first.equals("in") ? x -> other != null && liesIn(x, other)
            : x -> other != null && formOf(x, 2).equals(formOf(other, 2));
    }

    private static int measure(String word, Band b) {
        switch (word) {
            case "area":
                return area(b.corners);
            case "on":
                return along(b).size();
            case "within":
                return within(b);
            case "corners":
                return b.n();
            default:
                return right(b);
        }
    }

    int said(int k) {
        if (s.sentence == null) {
            return NONE;
        }
        List<Integer> found = new ArrayList<>();
        try {
            Cond c = any(new Walk(s.sentence), new int[1], 1, true);
            for (int b = 0; b < s.bands.size(); b++) {
                if (c.of(s.bands.get(b))) {
                    found.add(b);
                }
            }
        } catch (Fault f) {
            throw new IllegalStateException("a sentence that was fine is no more");
        }
        return nth(found, k);
    }

    static int nth(List<Integer> list, int k) {
        return k == NONE ? list.size() : k >= 0 && k < list.size() ? list.get(k) : NONE;
    }

    // ---- points and sides

    static int cross(P a, P b) {
        return a.x * b.y - a.y * b.x;
    }

    static int dot(P a, P b) {
        return a.x * b.x + a.y * b.y;
    }

    /** How two sides meet: 0 not, 1 at one point that is no end, 2 otherwise; solved for the place along both. */
    static int meet(P a, P b, P c, P d) {
        P r = b.minus(a);
        P q = d.minus(c);
        int det = cross(r, q);
        if (det == 0) {
            if (cross(r, c.minus(a)) != 0) {
                return 0;
            }
            int from = dot(c.minus(a), r);
            int to = dot(d.minus(a), r);
            return Math.max(from, to) < 0 || Math.min(from, to) > dot(r, r) ? 0 : 2;
        }
        int t = cross(c.minus(a), q);
        int u = cross(c.minus(a), r);
        if (det < 0) {
            det = -det;
            t = -t;
            u = -u;
        }
        if (t < 0 || t > det || u < 0 || u > det) {
            return 0;
        }
        return t > 0 && t < det && u > 0 && u < det ? 1 : 2;
    }

    static int gcd(int a, int b) {
        return b == 0 ? a : gcd(b, a % b);
    }

    /** The places on a band, in order. */
    static List<P> along(Band b) {
        List<P> all = new ArrayList<>();
        for (int i = 0; i < b.n(); i++) {
            P from = b.at(i);
            P way = b.at(i + 1).minus(from);
            int g = gcd(Math.abs(way.x), Math.abs(way.y));
            for (int k = 0; k < g; k++) {
                all.add(new P(from.x + k * way.x / g, from.y + k * way.y / g));
            }
        }
        return all;
    }

    /** A ray so flat that it meets no place but its first counts the sides; the point is not on the band. */
    static boolean encloses(List<P> corners, P p) {
        int crossed = 0;
        for (int i = 0; i < corners.size(); i++) {
            P a = corners.get(i);
            P b = corners.get((i + 1) % corners.size());
            int sideA = Integer.signum(cross(new P(1000, 1), a.minus(p)));
            int sideB = Integer.signum(cross(new P(1000, 1), b.minus(p)));
            if (sideA != sideB) {
                // Where it crosses the line of the ray, ahead or behind.
                P way = b.minus(a);
                int det = cross(new P(1000, 1), way);
                int t = cross(a.minus(p), way);
                if ((det > 0 ? t : -t) > 0) {
                    crossed++;
                }
            }
        }
        return crossed % 2 == 1;
    }

    static boolean isWithin(Band b, P p) {
        return !along(b).contains(p) && encloses(b.corners, p);
    }

    static int within(Band b) {
        int sum = 0;
        for (int y = 0; y < 10; y++) {
            for (int x = 0; x < 10; x++) {
                sum += isWithin(b, new P(x, y)) ? 1 : 0;
            }
        }
        return sum;
    }

    static int signedArea(List<P> c) {
        int sum = 0;
        for (int i = 2; i < c.size(); i++) {
            sum += cross(c.get(i - 1).minus(c.get(0)), c.get(i).minus(c.get(0)));
        }
        return sum;
    }

    static int area(List<P> c) {
        return Math.abs(signedArea(c));
    }

    /** A corner at the utmost left and top is never bent in: the others are told by it. */
    static int bent(Band b) {
        int utmost = 0;
        for (int i = 0; i < b.n(); i++) {
            if (b.at(i).x * 100 + b.at(i).y < b.at(utmost).x * 100 + b.at(utmost).y) {
                utmost = i;
            }
        }
        int due = turnAt(b, utmost);
        int sum = 0;
        for (int i = 0; i < b.n(); i++) {
            sum += turnAt(b, i) != due ? 1 : 0;
        }
        return sum;
    }

    private static int turnAt(Band b, int i) {
        return Integer.signum(cross(b.at(i).minus(b.at(i - 1)), b.at(i + 1).minus(b.at(i))));
    }

    static int right(Band b) {
        int sum = 0;
        for (int i = 0; i < b.n(); i++) {
            sum += dot(b.at(i).minus(b.at(i - 1)), b.at(i + 1).minus(b.at(i))) == 0 ? 1 : 0;
        }
        return sum;
    }

    static int meetings(Band a, Band b, int how) {
        int sum = 0;
        for (int i = 0; i < a.n(); i++) {
            for (int j = 0; j < b.n(); j++) {
                sum += meet(a.at(i), a.at(i + 1), b.at(j), b.at(j + 1)) == how ? 1 : 0;
            }
        }
        return sum;
    }

    static boolean liesIn(Band a, Band b) {
        boolean lies = meetings(a, b, 1) + meetings(a, b, 2) == 0;
        for (P p : a.corners) {
            lies &= isWithin(b, p);
        }
        return lies;
    }

    boolean isPlace(State d, P p) {
        return p.x >= 0 && p.y >= 0 && p.x < d.w && p.y < d.h;
    }

    boolean isPeg(State d, P p) {
        return isPlace(d, p) && !d.out.contains(p);
    }

    int wrong(State d, List<P> c, Band except, int upTo) {
        int n = c.size();
        for (P p : c) {
            if (!isPeg(d, p)) {
                return 1;
            }
        }
        if (new HashSet<>(c).size() < n) {
            return 2;
        }
        for (int i = 0; i < n; i++) {
            P here = c.get((i + 1) % n);
            if (cross(here.minus(c.get(i)), c.get((i + 2) % n).minus(here)) == 0) {
                return 3;
            }
        }
        Band b = new Band("", c);
        for (int i = 0; i < n; i++) {
            for (int j = 0; j < n; j++) {
                boolean isFar = j != i && j != (i + 1) % n && i != (j + 1) % n;
                if (isFar && meet(b.at(i), b.at(i + 1), b.at(j), b.at(j + 1)) != 0) {
                    return 4;
                }
            }
        }
        for (Band o : d.bands) {
            if (upTo >= 5 && !d.bell && o != except && meetings(b, o, 0) < n * o.n()) {
                return 5;
            }
        }
        return 0;
    }

    // ---- questions about bands

    boolean has(int b) {
        return b >= 0 && b < s.bands.size();
    }

    int peg(int at) {
        P p = placeOf(at);
        return p == null ? NONE : s.out.contains(p) ? 0 : 1;
    }

    P placeOf(int at) {
        if (at < 0) {
            return null;
        }
        P p = new P(at % 10, at / 10);
        return isPlace(s, p) ? p : null;
    }

    /** NoSuchElementException is told by null. */
    Integer band(int b, int what) {
        if (!has(b) || what < 0 || what > 6) {
            return null;
        }
        Band x = s.bands.get(b);
        int crossings = 0;
        for (Band o : s.bands) {
            crossings += o == x ? 0 : meetings(x, o, 1);
        }
        int[] all = {x.n(), area(x.corners), along(x).size(), within(x), bent(x), right(x), crossings};
        return all[what];
    }

    int corner(int b, int i) {
        return has(b) && i >= 0 && i < s.bands.get(b).n() ? s.bands.get(b).at(i).peg() : NONE;
    }

    int side(int b, int i) {
        if (corner(b, i) == NONE) {
            return NONE;
        }
        P way = s.bands.get(b).at(i + 1).minus(s.bands.get(b).at(i));
        return dot(way, way);
    }

    int over(int at, int what) {
        P p = placeOf(at);
        if (p == null || what < 0 || what > 1) {
            return NONE;
        }
        int bits = 0;
        for (int b = 0; b < s.bands.size(); b++) {
            boolean fits = what == 0 ? isWithin(s.bands.get(b), p) : along(s.bands.get(b)).contains(p);
            bits += fits ? 1 << b : 0;
        }
        return bits;
    }

    int cross(int a, int b, int what) {
        return !has(a) || !has(b) || a == b || what < 0 || what > 1 ? NONE
            : meetings(s.bands.get(a), s.bands.get(b), what + 1);
    }

    int in(int a, int b) {
        return !has(a) || !has(b) ? NONE : liesIn(s.bands.get(a), s.bands.get(b)) ? 1 : 0;
    }

    private static final int[][] POSES = {
        {1, 0, 0, 1}, {0, 1, -1, 0}, {-1, 0, 0, -1}, {0, -1, 1, 0},
        {1, 0, 0, -1}, {0, 1, 1, 0}, {-1, 0, 0, 1}, {0, -1, -1, 0}};

    static List<Integer> leastRow(Band b, int[] pose) {
        List<P> c = new ArrayList<>();
        int x0 = Integer.MAX_VALUE;
        int y0 = Integer.MAX_VALUE;
        for (P p : b.corners) {
            P q = new P(pose[0] * p.x + pose[1] * p.y, pose[2] * p.x + pose[3] * p.y);
            c.add(q);
            x0 = Math.min(x0, q.x);
            y0 = Math.min(y0, q.y);
        }
        List<Integer> best = null;
        for (int way = 0; way < 2; way++) {
            for (int i = 0; i < c.size(); i++) {
                List<Integer> row = new ArrayList<>();
                for (P p : c) {
                    row.add(p.x - x0);
                    row.add(p.y - y0);
                }
                best = best == null || Arrays.compare(ints(row), ints(best)) < 0 ? row : best;
                Collections.rotate(c, 1);
            }
            Collections.reverse(c);
        }
        return best;
    }

    private static int[] ints(List<Integer> row) {
        return row.stream().mapToInt(i -> i).toArray();
    }

    static List<Integer> formOf(Band b, int how) {
        List<Integer> best = leastRow(b, POSES[0]);
        for (int i = 1; i < (how == 0 ? 1 : how == 1 ? 4 : 8); i++) {
            List<Integer> row = leastRow(b, POSES[i]);
            best = Arrays.compare(ints(row), ints(best)) < 0 ? row : best;
        }
        return best;
    }

    int alike(int a, int b, int how) {
        return !has(a) || !has(b) || how < 0 || how > 2 ? NONE
            : formOf(s.bands.get(a), how).equals(formOf(s.bands.get(b), how)) ? 1 : 0;
    }

    int form(int b, int how) {
        if (!has(b) || how < 0 || how > 2) {
            return NONE;
        }
        form = formOf(s.bands.get(b), how);
        return form.size();
    }

    int formAt(int i) {
        return i < 0 || i >= form.size() ? NONE : form.get(i);
    }

    int even(int b, int how) {
        if (!has(b) || how < 0 || how > 2) {
            return NONE;
        }
        Band x = s.bands.get(b);
        List<Integer> due = leastRow(x, POSES[0]);
        boolean is = how == 0 ? leastRow(x, POSES[2]).equals(due) : leastRow(x, POSES[1]).equals(due);
        if (how == 2) {
            is = false;
            for (int i = 4; i < 8; i++) {
                is |= leastRow(x, POSES[i]).equals(due);
            }
        }
        return is ? 1 : 0;
    }

    int rim(int b, int what) {
        if (!has(b) || what < 0 || what > 3) {
            return NONE;
        }
        TreeSet<Integer> xs = new TreeSet<>();
        TreeSet<Integer> ys = new TreeSet<>();
        for (P p : s.bands.get(b).corners) {
            xs.add(p.x);
            ys.add(p.y);
        }
        int[] all = {xs.first(), ys.first(), xs.last() - xs.first(), ys.last() - ys.first()};
        return all[what];
    }

    int wide(int b) {
        if (!has(b)) {
            return NONE;
        }
        int most = 0;
        for (P p : s.bands.get(b).corners) {
            for (P q : s.bands.get(b).corners) {
                most = Math.max(most, dot(p.minus(q), p.minus(q)));
            }
        }
        return most;
    }

    private Set<P> held(List<Band> bands) {
        Set<P> all = new HashSet<>();
        for (P p : pegs()) {
            for (Band b : bands) {
                if (along(b).contains(p) || isWithin(b, p)) {
                    all.add(p);
                }
            }
        }
        return all;
    }

    List<P> pegs() {
        List<P> all = new ArrayList<>();
        for (int at = 0; at < 100; at++) {
            if (peg(at) == 1) {
                all.add(placeOf(at));
            }
        }
        return all;
    }

    int free() {
        return pegs().size() - held(s.bands).size();
    }

    // ---- changes

    private void change(List<Band> bands) {
        past.add(s.bands);
        if (past.size() > 8) {
            past.remove(0);
        }
        put(bands);
    }

    private void put(List<Band> bands) {
        s = new State(s.w, s.h, s.bell, s.out, bands, s.calls, s.lines, s.sentence);
    }

    private int anew(int b, List<P> corners) {
        int wrong = wrong(s, corners, s.bands.get(b), 5);
        if (wrong == 0) {
            List<Band> bands = new ArrayList<>(s.bands);
            bands.set(b, new Band(s.bands.get(b).name, corners));
            change(bands);
        }
        return wrong;
    }

    int move(int b, int i, int at) {
        if (corner(b, i) == NONE || placeOf(at) == null) {
            return NONE;
        }
        List<P> corners = new ArrayList<>(s.bands.get(b).corners);
        corners.set(i, placeOf(at));
        return anew(b, corners);
    }

    int slide(int b, int x, int y) {
        if (!has(b)) {
            return NONE;
        }
        List<P> corners = new ArrayList<>();
        for (P p : s.bands.get(b).corners) {
            boolean isFar = Math.abs((long) x) > 9 || Math.abs((long) y) > 9;
            corners.add(isFar ? new P(-1, -1) : new P(p.x + x, p.y + y));
        }
        return anew(b, corners);
    }

    int snap(int b) {
        if (!has(b)) {
            return NONE;
        }
        int before = free();
        List<Band> bands = new ArrayList<>(s.bands);
        bands.remove(b);
        change(bands);
        return free() - before;
    }

    int undo() {
        if (past.isEmpty()) {
            return NONE;
        }
        put(past.remove(past.size() - 1));
        return past.size();
    }

    // ---- calls

    private P sum() {
        int x = 0;
        int y = 0;
        for (P p : s.calls.subList(1, s.calls.size())) {
            x += p.x;
            y += p.y;
        }
        return new P(x, y);
    }

    private static List<P> corners(List<P> calls) {
        List<P> all = new ArrayList<>();
        int x = 0;
        int y = 0;
        for (P p : calls.subList(0, calls.size() - 1)) {
            x += p.x;
            y += p.y;
            all.add(new P(x, y));
        }
        return all;
    }

    int closes() {
        return s.calls == null ? NONE : sum().equals(new P(0, 0)) ? 1 : 0;
    }

    int mended(int k) {
        if (closes() != 0) {
            return NONE;
        }
        List<Integer> found = new ArrayList<>();
        for (int i = 1; i < s.calls.size(); i++) {
            List<P> calls = new ArrayList<>(s.calls);
            calls.set(i, calls.get(i).minus(sum()));
            if (wrong(s, corners(calls), null, 4) == 0) {
                found.add(i - 1);
            }
        }
        return nth(found, k);
    }

    int lay() {
        if (s.calls == null) {
            return NONE;
        }
        if (closes() == 0) {
            return 6;
        }
        int wrong = wrong(s, corners(s.calls), null, 5);
        if (wrong != 0) {
            return wrong;
        }
        if (s.bands.size() == 8) {
            return 7;
        }
        List<Band> bands = new ArrayList<>(s.bands);
        bands.add(new Band(null, corners(s.calls)));
        change(bands);
        return 0;
    }

    int write(int b) {
        if (!has(b)) {
            return NONE;
        }
        Band x = s.bands.get(b);
        String best = null;
        for (int i = 0; i < x.n(); i++) {
            for (int way = 1; way >= -1; way -= 2) {
                StringBuilder t = new StringBuilder("at " + x.at(i).x + " " + x.at(i).y + ";");
                for (int j = 0; j < x.n(); j++) {
                    P go = x.at(i + way * (j + 1)).minus(x.at(i + way * j));
                    t.append("by " + go.x + " " + go.y + ";");
                }
                best = best == null || t.length() < best.length() ? t.toString() : best;
            }
        }
        text = best;
        return text.length();
    }

    int byteAt(int i) {
        return i < 0 || i >= text.length() ? NONE : text.charAt(i);
    }

    // ---- finding

    private List<List<P>> triangles(int on, int within) {
        List<List<P>> found = new ArrayList<>();
        List<P> pegs = pegs();
        for (int i = 0; i < pegs.size(); i++) {
            for (int j = i + 1; j < pegs.size(); j++) {
                for (int k = j + 1; k < pegs.size(); k++) {
                    List<P> c = List.of(pegs.get(i), pegs.get(j), pegs.get(k));
                    Band b = new Band("", c);
                    if (area(c) != 0 && along(b).size() == on && within(b) == within) {
                        found.add(c);
                    }
                }
            }
        }
        return found;
    }

    int triangles(int on, int within, int k) {
        if (s.w == 0 || on < 0 || on > 999 || within < 0 || within > 999) {
            return NONE;
        }
        List<Integer> found = new ArrayList<>();
        for (List<P> c : triangles(on, within)) {
            found.add(10000 * c.get(0).peg() + 100 * c.get(1).peg() + c.get(2).peg());
        }
        return nth(found, k);
    }

    int smallest(int on, int within) {
        int least = NONE;
        if (s.w == 0 || on < 0 || on > 999 || within < 0 || within > 999) {
            return NONE;
        }
        for (List<P> c : triangles(on, within)) {
            least = least == NONE ? area(c) : Math.min(least, area(c));
        }
        return least;
    }

    int cuts(int b, int k) {
        if (!has(b)) {
            return NONE;
        }
        Band x = s.bands.get(b);
        List<P> on = along(x);
        List<Integer> found = new ArrayList<>();
        for (int i = 0; i < on.size(); i++) {
            for (int j = i + 1; j < on.size(); j++) {
                boolean isHalf = 2 * area(on.subList(i, j + 1)) == area(x.corners);
                if (isHalf && isInside(x, on.get(i), on.get(j))) {
                    found.add(100 * on.get(i).peg() + on.get(j).peg());
                }
            }
        }
        return nth(found, k);
    }

    /** No side meets the way from p to q but at p or q, and its middle is enclosed. */
    private static boolean isInside(Band b, P p, P q) {
        P r = q.minus(p);
        for (int i = 0; i < b.n(); i++) {
            P c = b.at(i);
            P way = b.at(i + 1).minus(c);
            int det = cross(r, way);
            if (det == 0) {
                if (cross(r, c.minus(p)) == 0) {
                    int from = dot(c.minus(p), r);
                    int to = dot(b.at(i + 1).minus(p), r);
                    if (Math.max(from, to) > 0 && Math.min(from, to) < dot(r, r)) {
                        return false;
                    }
                }
                continue;
            }
            int sign = det < 0 ? -1 : 1;
            int t = sign * cross(c.minus(p), way);
            int u = sign * cross(c.minus(p), r);
            if (t > 0 && t < sign * det && u >= 0 && u <= sign * det) {
                return false;
            }
        }
        List<P> twofold = new ArrayList<>();
        for (P c : b.corners) {
            twofold.add(new P(2 * c.x, 2 * c.y));
        }
        return encloses(twofold, new P(p.x + q.x, p.y + q.y));
    }

    int moved(int a, int b) {
        if (!has(a) || !has(b) || s.bands.get(a).n() != 3 || s.bands.get(b).n() != 3 || s.w * s.h > 36) {
            return NONE;
        }
        Set<P> goal = new HashSet<>(s.bands.get(b).corners);
        Map<Set<P>, Integer> seen = new HashMap<>();
        ArrayDeque<Set<P>> next = new ArrayDeque<>();
        Set<P> start = new HashSet<>(s.bands.get(a).corners);
        seen.put(start, 0);
        next.add(start);
        while (!next.isEmpty()) {
            Set<P> here = next.remove();
            if (here.equals(goal)) {
                return seen.get(here);
            }
            for (P p : here) {
                for (P go : List.of(new P(p.x + 1, p.y), new P(p.x - 1, p.y), new P(p.x, p.y + 1), new P(p.x, p.y - 1))) {
                    Set<P> to = new HashSet<>(here);
                    to.remove(p);
                    to.add(go);
                    if (isPeg(s, go) && to.size() == 3 && area(new ArrayList<>(to)) != 0 && !seen.containsKey(to)) {
                        seen.put(to, seen.get(here) + 1);
                        next.add(to);
                    }
                }
            }
        }
        return NONE;
    }

    // ---- the game

    private boolean isGame() {
        return s.w > 0 && pegs().size() <= 9;
    }

    private List<List<P>> open(List<List<P>> lying) {
        List<List<P>> all = new ArrayList<>();
        List<P> pegs = pegs();
        for (P p : pegs) {
            for (P q : pegs) {
                P way = q.minus(p);
                boolean can = p.peg() < q.peg() && gcd(Math.abs(way.x), Math.abs(way.y)) == 1;
                for (List<P> l : lying) {
                    can &= !l.contains(p) && !l.contains(q) && can && meet(p, q, l.get(0), l.get(1)) == 0;
                }
                if (can) {
                    all.add(List.of(p, q));
                }
            }
        }
        return all;
    }

    private List<P> winning(List<List<P>> lying) {
        for (List<P> l : open(lying)) {
            List<List<P>> more = new ArrayList<>(lying);
            more.add(l);
            if (winning(more) == null) {
                return l;
            }
        }
        return null;
    }

    private static int code(List<P> line) {
        return 100 * line.get(0).peg() + line.get(1).peg();
    }

    private void putLines(List<List<P>> lines) {
        s = new State(s.w, s.h, s.bell, s.out, s.bands, s.calls, lines, s.sentence);
    }

    boolean line(int a, int b) {
        if (!isGame() || peg(a) != 1 || peg(b) != 1 || a == b) {
            return false;
        }
        List<P> l = List.of(placeOf(Math.min(a, b)), placeOf(Math.max(a, b)));
        if (!open(s.lines).contains(l)) {
            return false;
        }
        List<List<P>> more = new ArrayList<>(s.lines);
        more.add(l);
        putLines(more);
        return true;
    }

    int lines(int k) {
        if (!isGame()) {
            return NONE;
        }
        List<Integer> found = new ArrayList<>();
        for (List<P> l : open(s.lines)) {
            found.add(code(l));
        }
        return nth(found, k);
    }

    int wins() {
        if (!isGame()) {
            return -2;
        }
        List<P> l = winning(s.lines);
        return l == null ? NONE : code(l);
    }

    int again() {
        int lay = s.lines.size();
        putLines(List.of());
        return lay;
    }

    // ---- the rest

    int feed(int... five) {
        if (tape.size() + 20 > 640) {
            return NONE;
        }
        for (int v : five) {
            for (int i = 3; i >= 0; i--) {
                tape.add(v >>> (8 * i) & 255);
            }
        }
        return tape.size();
    }

    boolean end(int n) {
        if (n < 0 || n > tape.size()) {
            return false;
        }
        tape = new ArrayList<>(tape.subList(0, n));
        return true;
    }

    boolean image(int k) {
        if (k != 0 && k != 1) {
            return false;
        }
        images[k] = s;
        return true;
    }

    boolean restore(int k) {
        if (k != 0 && k != 1 || images[k] == null) {
            return false;
        }
        s = images[k];
        past = new ArrayList<>();
        return true;
    }

    int count(int what) {
        int[] all = {s.w, s.h, s.bands.size(), s.out.size(), s.bell ? 1 : 0,
            s.calls == null ? 0 : s.calls.size() - 1, s.lines.size(), tape.size()};
        return what < 0 || what > 7 ? NONE : all[what];
    }

    Set<String> names() {
        Set<String> all = new LinkedHashSet<>();
        for (Band b : s.bands) {
            if (b.name != null) {
                all.add(b.name);
            }
        }
        return all;
    }
}
