import java.util.Arrays;
import java.util.NoSuchElementException;

/** A board of pegs with rubber bands about them, told as texts that come on a tape of bytes. */
public final class PegBands {
    public static final int NONE = -1;

    private static final int TAPE_MOST = 640;
    /** 'at' with 7 bytes and 8 of 'by' with 9 bytes at most. */
    private static final int TEXT_MOST = 79;
    private static final int BOARD_BYTES = 600;
    private static final int CALLS_BYTES = 300;
    private static final int SENTENCE_BYTES = 200;

    private static final int BANDS_MOST = 8;
    private static final int CORNERS_LEAST = 3;
    private static final int CORNERS_MOST = 8;
    private static final int OUTS_MOST = 12;
    private static final int UNDO_MOST = 8;
    private static final int IMAGES = 2;
    private static final int PLACES_MOST = 100;
    private static final int ONES_MOST = 20;
    private static final int DEPTH_MOST = 8;
    private static final int GAME_PEGS_MOST = 9;
    private static final int GAME_LINES_MOST = 4;
    private static final int GAME_PAIRS_MOST = 36;
    private static final int NO_GAME = -2;
    private static final int MOVED_PLACES_MOST = 36;
    private static final int COUNT_MOST = 999;

    /** Kinds of tokens; a sign's kind is its byte, a told word's kind is FIRST_WORD and its place in WORDS. */
    private static final int END = 0;
    private static final int BAD = 1;
    private static final int NUMBER = 2;
    private static final int NAME = 3;
    private static final int FIRST_WORD = 100;
    private static final String WORDS =
        "board bell out band at by or and not in alike bent area on within corners right ";
    private static final int BOARD = 100;
    private static final int BELL = 101;
    private static final int OUT = 102;
    private static final int BAND = 103;
    private static final int AT = 104;
    private static final int BY = 105;
    private static final int OR = 106;
    private static final int AND = 107;
    private static final int NOT = 108;
    private static final int IN = 109;
    private static final int ALIKE = 110;
    private static final int BENT = 111;
    private static final int AREA = 112;
    private static final int ON = 113;
    private static final int WITHIN = 114;
    private static final int CORNERS = 115;
    private static final int RIGHT = 116;

    private static final int FAULT_TOKEN = 1;
    private static final int FAULT_NUMBER = 2;
    private static final int FAULT_TWICE = 3;
    private static final int FAULT_MANY = 4;
    private static final int FAULT_BAND = 5;

    private static final int WRONG_PEG = 1;
    private static final int WRONG_TWICE = 2;
    private static final int WRONG_STRAIGHT = 3;
    private static final int WRONG_KNOT = 4;
    private static final int WRONG_MEETS = 5;
    private static final int WRONG_OPEN = 6;
    private static final int WRONG_FULL = 7;

    private static final int APART = 0;
    private static final int CROSSING = 1;
    private static final int TOUCH = 2;

    private final Reader reader = new Reader();
    private final Bytes tape = reader.tape;
    private final Table now = new Table();
    private final Table draft = new Table();
    private final Table[] images = new Table[IMAGES];
    private final Bands[] past = new Bands[UNDO_MOST];
    private int pastMany = 0;
    private final int[] row = new int[CORNERS_MOST];
    private final Shapes shapes = new Shapes();
    private final Bytes text = new Bytes(TEXT_MOST);
    private final Places places = new Places();
    private final Mover mover = new Mover();
    private final Game game = new Game();
    private int faultKind = 0;
    private int wrongKind = 0;

    public PegBands() {
        for (int i = 0; i < IMAGES; i++) {
            images[i] = new Table();
        }
        for (int i = 0; i < UNDO_MOST; i++) {
            past[i] = new Bands();
        }
    }

    // ---- the tape and the texts

    public int feed(int a, int b, int c, int d, int e) {
        if (!tape.hasRoom(20)) {
            return NONE;
        }
        tape.putFour(a);
        tape.putFour(b);
        tape.putFour(c);
        tape.putFour(d);
        tape.putFour(e);
        return tape.length;
    }

    public boolean end(int n) {
        if (n < 0 || n > tape.length) {
            return false;
        }
        tape.length = n;
        return true;
    }

    public int board() {
        reader.open(BOARD_BYTES);
        draft.board.readSize(reader);
        int lines = 1;
        for (int i = 0; i < TAPE_MOST && reader.isFine() && reader.kind != END; i++) {
            draft.board.readLine(reader, row);
            lines++;
        }
        if (reader.fault == FAULT_BAND) {
            wrongKind = draft.board.why;
        }
        if (hasFault()) {
            return -1 - reader.place;
        }
        now.board.copyFrom(draft.board);
        now.told.many = 0;
        now.lying = 0;
        now.sentence.clear();
        pastMany = 0;
        return lines;
    }

    public int fault() {
        return faultKind;
    }

    public int why() {
        return wrongKind;
    }

    /** Closes the reading of a text: the tape is used up, with a fault or without. */
    private boolean hasFault() {
        tape.length = 0;
        faultKind = reader.fault;
        return faultKind != 0;
    }

    // ---- what bands are

    public int peg(int at) {
        return now.board.pegAt(at);
    }

    public int band(int b, int what) throws NoSuchElementException {
        Bands bands = now.board.bands;
        if (!bands.has(b) || what < 0 || what > 6) {
            throw new NoSuchElementException();
        }
        switch (what) {
            case 0:
                return bands.sizeOf(b);
            case 1:
                return bands.areaOf(b);
            case 2:
                return bands.placesOn(b);
            case 3:
                return bands.placesWithin(b);
            case 4:
                return bands.bentIn(b);
            case 5:
                return bands.rightOnes(b);
            default:
                return crossingsOfAll(b);
        }
    }

    private int crossingsOfAll(int b) {
        Bands bands = now.board.bands;
        int sum = 0;
        for (int other = 0; other < bands.many; other++) {
            if (other != b) {
                sum += bands.meetings(b, other, CROSSING);
            }
        }
        return sum;
    }

    public int corner(int b, int i) {
        Bands bands = now.board.bands;
        return bands.hasCorner(b, i) ? bands.at(b, i) : NONE;
    }

    public int side(int b, int i) {
        Bands bands = now.board.bands;
        return bands.hasCorner(b, i) ? Plane.square(bands.at(b, i), bands.at(b, i + 1)) : NONE;
    }

    public int over(int at, int what) {
        if (now.board.pegAt(at) == NONE || what < 0 || what > 1) {
            return NONE;
        }
        Bands bands = now.board.bands;
        int bits = 0;
        for (int b = 0; b < bands.many; b++) {
            boolean fits = what == 0 ? bands.holdsWithin(b, at) : bands.holdsOn(b, at);
            if (fits) {
                bits |= 1 << b;
            }
        }
        return bits;
    }

    public int cross(int a, int b, int what) {
        Bands bands = now.board.bands;
        if (!bands.has(a) || !bands.has(b) || a == b || what < 0 || what > 1) {
            return NONE;
        }
        return bands.meetings(a, b, what == 0 ? CROSSING : TOUCH);
    }

    public int in(int a, int b) {
        Bands bands = now.board.bands;
        if (!bands.has(a) || !bands.has(b)) {
            return NONE;
        }
        return bands.liesIn(a, b) ? 1 : 0;
    }

    public int alike(int a, int b, int how) {
        Bands bands = now.board.bands;
        if (!bands.has(a) || !bands.has(b) || how < 0 || how > 2) {
            return NONE;
        }
        return shapes.areAlike(bands, a, b, how) ? 1 : 0;
    }

    public int form(int b, int how) {
        if (!now.board.bands.has(b) || how < 0 || how > 2) {
            return NONE;
        }
        shapes.tell(now.board.bands, b, how);
        return shapes.toldMany;
    }

    public int formAt(int i) {
        return i < 0 || i >= shapes.toldMany || i >= shapes.told.length ? NONE : shapes.told[i];
    }

    public int rim(int b, int what) {
        if (!now.board.bands.has(b) || what < 0 || what > 3) {
            return NONE;
        }
        return now.board.bands.rimOf(b, what);
    }

    public int even(int b, int how) {
        if (!now.board.bands.has(b) || how < 0 || how > 2) {
            return NONE;
        }
        return shapes.isEven(now.board.bands, b, how) ? 1 : 0;
    }

    public int wide(int b) {
        return now.board.bands.has(b) ? now.board.bands.widest(b) : NONE;
    }

    public int free() {
        Board board = now.board;
        int sum = 0;
        for (int at = 0; at < PLACES_MOST; at++) {
            if (board.pegAt(at) == 1 && !board.bands.anyHolds(at, NONE)) {
                sum++;
            }
        }
        return sum;
    }

    // ---- bands moved, snapped, undone

    public int move(int b, int i, int at) {
        Board board = now.board;
        if (!board.bands.hasCorner(b, i) || board.pegAt(at) == NONE || i >= row.length) {
            return NONE;
        }
        int n = board.bands.fill(b, row);
        row[i] = at;
        return putAnew(b, n);
    }

    public int slide(int b, int x, int y) {
        Board board = now.board;
        if (!board.bands.has(b)) {
            return NONE;
        }
        int n = board.bands.fill(b, row);
        for (int i = 0; i < n && i < row.length; i++) {
            row[i] = board.place((long) row[i] % 10 + x, (long) row[i] / 10 + y);
        }
        return putAnew(b, n);
    }

    /** Band b goes to the corners in row, unless it would be wrong there. */
    private int putAnew(int b, int n) {
        int wrong = now.board.wrongOf(row, n, b);
        if (wrong == 0) {
            keepPast();
            now.board.bands.put(b, row, n);
        }
        return wrong;
    }

    public int snap(int b) {
        Board board = now.board;
        if (!board.bands.has(b)) {
            return NONE;
        }
        int freed = 0;
        for (int at = 0; at < PLACES_MOST; at++) {
            if (board.pegAt(at) == 1 && board.bands.holds(b, at) && !board.bands.anyHolds(at, b)) {
                freed++;
            }
        }
        keepPast();
        board.bands.remove(b);
        return freed;
    }

    public int undo() {
        if (pastMany <= 0 || pastMany > UNDO_MOST) {
            return NONE;
        }
        pastMany--;
        now.board.bands.copyFrom(past[pastMany]);
        return pastMany;
    }

    /** Keeps the bands as they are, ahead of a change; the oldest ones kept give way. */
    private void keepPast() {
        if (pastMany >= UNDO_MOST) {
            Bands oldest = past[0];
            for (int i = 1; i < UNDO_MOST; i++) {
                past[i - 1] = past[i];
            }
            past[UNDO_MOST - 1] = oldest;
            pastMany = UNDO_MOST - 1;
        }
        past[pastMany].copyFrom(now.board.bands);
        pastMany++;
    }

    // ---- calls

    public int calls() {
        reader.open(CALLS_BYTES);
        draft.told.readFrom(reader, now.board);
        if (hasFault()) {
            return -1 - reader.place;
        }
        now.told.copyFrom(draft.told);
        return now.told.many;
    }

    public int closes() {
        if (now.told.many == 0) {
            return NONE;
        }
        return now.told.isClosed() ? 1 : 0;
    }

    public int mended(int k) {
        Calls told = now.told;
        if (told.many == 0 || told.isClosed()) {
            return NONE;
        }
        int found = 0;
        for (int i = 0; i < told.many; i++) {
            told.layOut(now.board, i, row);
            if (now.board.wrongAlone(row, told.many) == 0) {
                if (found == k) {
                    return i;
                }
                found++;
            }
        }
        return k == NONE ? found : NONE;
    }

    public int lay() {
        Calls told = now.told;
        if (told.many == 0) {
            return NONE;
        }
        if (!told.isClosed()) {
            return WRONG_OPEN;
        }
        told.layOut(now.board, NONE, row);
        int wrong = now.board.wrongOf(row, told.many, NONE);
        if (wrong != 0) {
            return wrong;
        }
        if (now.board.bands.many >= BANDS_MOST) {
            return WRONG_FULL;
        }
        keepPast();
        now.board.bands.add(NONE, row, told.many);
        return 0;
    }

    public int write(int b) {
        if (!now.board.bands.has(b)) {
            return NONE;
        }
        draft.told.takeShortest(now.board.bands, b);
        draft.told.tell(text);
        return text.length;
    }

    public int byteAt(int i) {
        return text.at(i);
    }

    // ---- triangles, cuts, moves from one triangle to another

    public int triangles(int on, int within, int k) {
        if (!isCount(on) || !isCount(within) || !now.board.isTold()) {
            return NONE;
        }
        return places.findTriangle(now.board, on, within, k);
    }

    public int smallest(int on, int within) {
        if (!isCount(on) || !isCount(within) || !now.board.isTold()) {
            return NONE;
        }
        return places.findTriangle(now.board, on, within, 0) == NONE ? NONE : Places.areaWith(on, within);
    }

    private static boolean isCount(int number) {
        return number >= 0 && number <= COUNT_MOST;
    }

    public int cuts(int b, int k) {
        return now.board.bands.has(b) ? places.findCut(now.board.bands, b, k) : NONE;
    }

    public int moved(int a, int b) {
        Bands bands = now.board.bands;
        if (!bands.has(a) || !bands.has(b) || bands.sizeOf(a) != 3 || bands.sizeOf(b) != 3) {
            return NONE;
        }
        return mover.fewest(now.board, a, b);
    }

    // ---- the game

    public boolean line(int a, int b) {
        if (!game.begin(now.board)) {
            return false;
        }
        int i = game.pairOf(Math.min(a, b), Math.max(a, b));
        if (i == NONE || (game.openOn(now) >> i & 1) == 0) {
            return false;
        }
        return now.addLine(game.codeOf(i));
    }

    public int lines(int k) {
        if (!game.begin(now.board)) {
            return NONE;
        }
        return game.choice(game.openOn(now), k);
    }

    public int wins() {
        if (!game.begin(now.board)) {
            return NO_GAME;
        }
        return game.winning(game.openOn(now));
    }

    public int again() {
        int lay = now.lying;
        now.lying = 0;
        return lay;
    }

    // ---- sentences

    public int sentence() {
        reader.open(SENTENCE_BYTES);
        draft.sentence.clear();
        draft.sentence.readAny(reader, now.board, 1);
        if (reader.kind != END) {
            reader.fail(FAULT_TOKEN);
        }
        if (hasFault()) {
            return -1 - reader.place;
        }
        now.sentence.copyFrom(draft.sentence);
        return now.sentence.ones;
    }

    public int said(int k) {
        if (now.sentence.size == 0) {
            return NONE;
        }
        int found = 0;
        for (int b = 0; b < now.board.bands.many; b++) {
            if (now.sentence.holdsOf(now.board.bands, b, shapes)) {
                if (found == k) {
                    return b;
                }
                found++;
            }
        }
        return k == NONE ? found : NONE;
    }

    // ---- images and counts

    public boolean image(int k) {
        if (k < 0 || k >= IMAGES) {
            return false;
        }
        images[k].copyFrom(now);
        images[k].isKept = true;
        return true;
    }

    public boolean restore(int k) {
        if (k < 0 || k >= IMAGES || !images[k].isKept) {
            return false;
        }
        now.copyFrom(images[k]);
        pastMany = 0;
        return true;
    }

    public int count(int what) {
        switch (what) {
            case 0:
                return now.board.w;
            case 1:
                return now.board.h;
            case 2:
                return now.board.bands.many;
            case 3:
                return now.board.outs;
            case 4:
                return now.board.bell ? 1 : 0;
            case 5:
                return now.told.many;
            case 6:
                return now.lying;
            case 7:
                return tape.length;
            default:
                return NONE;
        }
    }

    /** A row of bytes that grows up to a bound: the tape, and the text made last. */
    private static final class Bytes {
        private final byte[] bytes;
        int length = 0;

        Bytes(int most) {
            bytes = new byte[Math.max(most, 0)];
        }

        boolean hasRoom(int more) {
            return length + more <= bytes.length;
        }

        int at(int i) {
            return i < 0 || i >= length || i >= bytes.length ? NONE : bytes[i] & 255;
        }

        void put(int c) {
            if (length >= 0 && length < bytes.length) {
                bytes[length] = (byte) c;
                length++;
            }
        }

        /** Four bytes, the highest first. */
        void putFour(int number) {
            for (int shift = 24; shift >= 0; shift -= 8) {
                put(number >> shift);
            }
        }

        void putNumber(int number) {
            put(' ');
            if (number < 0) {
                put('-');
            }
            put('0' + Math.abs(number));
        }
    }

    /** Reads the tape token by token; the first fault stays, and nothing is read behind it. */
    private static final class Reader {
        final Bytes tape = new Bytes(TAPE_MOST);
        int most = 0;
        int next = 0;
        int start = 0;
        int kind = END;
        int value = 0;
        long name = 0;
        int fault = 0;
        int place = 0;

        void open(int mostBytes) {
            most = mostBytes;
            next = 0;
            fault = 0;
            place = 0;
            step();
        }

        void fail(int faultNow) {
            if (fault == 0) {
                fault = faultNow;
                place = start;
            }
        }

        boolean isFine() {
            return fault == 0;
        }

        boolean sees(int wanted) {
            return fault == 0 && kind == wanted;
        }

        void step() {
            if (fault != 0) {
                return;
            }
            skipBlanks();
            start = next;
            if (tape.length > most && next >= most) {
                // A text that is too long can't end well, even if only blanks are too many.
                start = most;
                kind = BAD;
            } else if (next >= tape.length) {
                kind = END;
            } else if (isLetter(tape.at(next)) || isDigit(tape.at(next))) {
                readRun();
            } else {
                kind = isSign(tape.at(next)) ? tape.at(next) : BAD;
                next++;
            }
        }

        private void skipBlanks() {
            for (int i = 0; i < TAPE_MOST && (tape.at(next) == ' ' || tape.at(next) == '\n'); i++) {
                next++;
            }
        }

        private void readRun() {
            int letters = 0;
            int digits = 0;
            value = 0;
            name = 0;
            for (int i = 0; i < TAPE_MOST; i++) {
                int c = tape.at(next);
                if (isLetter(c)) {
                    letters++;
                    name = name * 27 + (c - 'a' + 1);
                } else if (isDigit(c)) {
                    digits++;
                    value = value * 10 + (c - '0');
                } else {
                    break;
                }
                next++;
            }
            if (digits == 0 && letters <= 7) {
                kind = kindOf(name);
            } else {
                kind = letters == 0 && digits <= 3 ? NUMBER : BAD;
            }
        }

        private static int kindOf(long name) {
            int nth = 0;
            long word = 0;
            for (int i = 0; i < WORDS.length(); i++) {
                char c = WORDS.charAt(i);
                if (c != ' ') {
                    word = word * 27 + (c - 'a' + 1);
                } else if (word == name) {
                    return FIRST_WORD + nth;
                } else {
                    nth++;
                    word = 0;
                }
            }
            return NAME;
        }

        private static boolean isLetter(int c) {
            return c >= 'a' && c <= 'z';
        }

        private static boolean isDigit(int c) {
            return c >= '0' && c <= '9';
        }

        private static boolean isSign(int c) {
            return c == ';' || c == '-' || c == '<' || c == '=' || c == '>' || c == '(' || c == ')';
        }

        void expect(int wanted) {
            if (sees(wanted)) {
                step();
            } else {
                fail(FAULT_TOKEN);
            }
        }

        /** Looks at a number without going on, since further faults may be told at it. */
        void checkNumber(int least, int greatest) {
            if (!sees(NUMBER)) {
                fail(FAULT_TOKEN);
            } else if (value < least || value > greatest) {
                fail(FAULT_NUMBER);
            }
        }

        int number(int least, int greatest) {
            checkNumber(least, greatest);
            int read = value;
            step();
            return read;
        }

        int signedDigit() {
            boolean isLess = sees('-');
            if (isLess) {
                step();
            }
            int read = number(0, 9);
            return isLess ? -read : read;
        }
    }

    /** Points told as peg numbers: 10 times y and x. */
    private static final class Plane {
        /** Above 0 if one turns from a over b to c one way, below 0 the other way, 0 in one line. */
        static int turn(int a, int b, int c) {
            int ax = a % 10;
            int ay = a / 10;
            return (b % 10 - ax) * (c / 10 - ay) - (b / 10 - ay) * (c % 10 - ax);
        }

        /** 0 if the ways from a to b and from a to c stand square on one another. */
        static int along(int a, int b, int c) {
            int ax = a % 10;
            int ay = a / 10;
            return (b % 10 - ax) * (c % 10 - ax) + (b / 10 - ay) * (c / 10 - ay);
        }

        static int square(int a, int b) {
            return along(a, b, b);
        }

        /** What the way from a to b adds to twice the area of a band. */
        static int shoelace(int a, int b) {
            return (a % 10) * (b / 10) - (b % 10) * (a / 10);
        }

        /** In how many parts the places on the way from a to b part it. */
        static int parts(int a, int b) {
            int big = Math.abs(a % 10 - b % 10);
            int small = Math.abs(a / 10 - b / 10);
            for (int i = 0; i < 20 && small != 0; i++) {
                int rest = big % small;
                big = small;
                small = rest;
            }
            return big;
        }

        static boolean isOn(int p, int a, int b) {
            return turn(a, b, p) == 0 && along(p, a, b) <= 0;
        }

        static int meet(int a, int b, int c, int d) {
            int atC = turn(a, b, c);
            int atD = turn(a, b, d);
            int atA = turn(c, d, a);
            int atB = turn(c, d, b);
            if (atC * atD < 0 && atA * atB < 0) {
                return CROSSING;
            }
            boolean touches = atC == 0 && along(c, a, b) <= 0 || atD == 0 && along(d, a, b) <= 0
                || atA == 0 && along(a, c, d) <= 0 || atB == 0 && along(b, c, d) <= 0;
            return touches ? TOUCH : APART;
        }
    }

    /** The bands of a board, in rows of fixed length; an id is the place of the band's name, NONE without. */
    private static final class Bands {
        int many = 0;
        final int[] ids = new int[BANDS_MOST];
        final int[] sizes = new int[BANDS_MOST];
        final int[] pegs = new int[BANDS_MOST * CORNERS_MOST];

        void copyFrom(Bands other) {
            many = other.many;
            System.arraycopy(other.ids, 0, ids, 0, BANDS_MOST);
            System.arraycopy(other.sizes, 0, sizes, 0, BANDS_MOST);
            System.arraycopy(other.pegs, 0, pegs, 0, BANDS_MOST * CORNERS_MOST);
        }

        boolean has(int b) {
            return b >= 0 && b < many && b < BANDS_MOST;
        }

        int sizeOf(int b) {
            return b < 0 || b >= BANDS_MOST ? 0 : sizes[b];
        }

        boolean hasCorner(int b, int i) {
            return has(b) && i >= 0 && i < sizeOf(b);
        }

        /** Corner i of band b, round and round. */
        int at(int b, int i) {
            if (b < 0 || b >= BANDS_MOST || i < 0) {
                return 0;
            }
            int size = sizes[b];
            return size <= 0 || size > CORNERS_MOST ? 0 : pegs[b * CORNERS_MOST + i % size];
        }

        int fill(int b, int[] into) {
            int n = sizeOf(b);
            for (int i = 0; i < n && i < into.length; i++) {
                into[i] = at(b, i);
            }
            return n;
        }

        void put(int b, int[] from, int n) {
            if (b < 0 || b >= BANDS_MOST || n < 0 || n > CORNERS_MOST) {
                return;
            }
            sizes[b] = n;
            for (int i = 0; i < n && i < from.length; i++) {
                pegs[b * CORNERS_MOST + i] = from[i];
            }
        }

        void add(int id, int[] from, int n) {
            if (many >= 0 && many < BANDS_MOST) {
                ids[many] = id;
                put(many, from, n);
                many++;
            }
        }

        void remove(int b) {
            if (!has(b)) {
                return;
            }
            for (int i = b; i + 1 < many && i + 1 < BANDS_MOST; i++) {
                ids[i] = ids[i + 1];
                sizes[i] = sizes[i + 1];
                System.arraycopy(pegs, (i + 1) * CORNERS_MOST, pegs, i * CORNERS_MOST, CORNERS_MOST);
            }
            many--;
        }

        /** The number of the band with an id, if it is still there. */
        int withId(int id) {
            for (int b = 0; b < many && b < BANDS_MOST; b++) {
                if (ids[b] == id && id != NONE) {
                    return b;
                }
            }
            return NONE;
        }

        /** Below 0 if the corners go round the other way. */
        int signedArea(int b) {
            int sum = 0;
            for (int i = 0; i < sizeOf(b); i++) {
                sum += Plane.shoelace(at(b, i), at(b, i + 1));
            }
            return sum;
        }

        int areaOf(int b) {
            return Math.abs(signedArea(b));
        }

        int placesOn(int b) {
            int sum = 0;
            for (int i = 0; i < sizeOf(b); i++) {
                sum += Plane.parts(at(b, i), at(b, i + 1));
            }
            return sum;
        }

        /** By Pick's rule, since a band that is not wrong never meets itself. */
        int placesWithin(int b) {
            return (areaOf(b) - placesOn(b) + 2) / 2;
        }

        int bentIn(int b) {
            boolean goesUp = signedArea(b) > 0;
            int sum = 0;
            for (int i = 0; i < sizeOf(b); i++) {
                if (Plane.turn(at(b, i), at(b, i + 1), at(b, i + 2)) > 0 != goesUp) {
                    sum++;
                }
            }
            return sum;
        }

        int rightOnes(int b) {
            int sum = 0;
            for (int i = 0; i < sizeOf(b); i++) {
                if (Plane.along(at(b, i + 1), at(b, i), at(b, i + 2)) == 0) {
                    sum++;
                }
            }
            return sum;
        }

        boolean holdsOn(int b, int p) {
            for (int i = 0; i < sizeOf(b); i++) {
                if (Plane.isOn(p, at(b, i), at(b, i + 1))) {
                    return true;
                }
            }
            return false;
        }

        /** For a point on no side; x and y are told twofold, so that the middle between two places is a point too. */
        boolean encloses(int b, int x, int y) {
            boolean isInside = false;
            for (int i = 0; i < sizeOf(b); i++) {
                int ax = 2 * (at(b, i) % 10);
                int ay = 2 * (at(b, i) / 10);
                int bx = 2 * (at(b, i + 1) % 10);
                int by = 2 * (at(b, i + 1) / 10);
                if (ay > y != by > y) {
                    int turn = (bx - ax) * (y - ay) - (by - ay) * (x - ax);
                    if (by > ay == turn > 0) {
                        isInside = !isInside;
                    }
                }
            }
            return isInside;
        }

        boolean holdsWithin(int b, int p) {
            return !holdsOn(b, p) && encloses(b, 2 * (p % 10), 2 * (p / 10));
        }

        boolean holds(int b, int p) {
            return holdsOn(b, p) || encloses(b, 2 * (p % 10), 2 * (p / 10));
        }

        boolean anyHolds(int p, int except) {
            for (int b = 0; b < many; b++) {
                if (b != except && holds(b, p)) {
                    return true;
                }
            }
            return false;
        }

        /** Pairs of sides of two bands that meet in that way. */
        int meetings(int a, int b, int how) {
            int sum = 0;
            for (int i = 0; i < sizeOf(a); i++) {
                for (int j = 0; j < sizeOf(b); j++) {
                    if (Plane.meet(at(a, i), at(a, i + 1), at(b, j), at(b, j + 1)) == how) {
                        sum++;
                    }
                }
            }
            return sum;
        }

        boolean liesIn(int a, int b) {
            if (meetings(a, b, APART) != sizeOf(a) * sizeOf(b)) {
                return false;
            }
            for (int i = 0; i < sizeOf(a); i++) {
                if (!holdsWithin(b, at(a, i))) {
                    return false;
                }
            }
            return true;
        }

        int rimOf(int b, int what) {
            int least = 9;
            int greatest = 0;
            boolean isAcross = what % 2 == 0;
            for (int i = 0; i < sizeOf(b); i++) {
                int here = isAcross ? at(b, i) % 10 : at(b, i) / 10;
                least = Math.min(least, here);
                greatest = Math.max(greatest, here);
            }
            return what < 2 ? least : greatest - least;
        }

        int widest(int b) {
            int most = 0;
            for (int i = 0; i < sizeOf(b); i++) {
                for (int j = 0; j < i; j++) {
                    most = Math.max(most, Plane.square(at(b, i), at(b, j)));
                }
            }
            return most;
        }
    }

    /** A board with the pegs that are out, its bell and its bands; without a board w and h are 0. */
    private static final class Board {
        int w = 0;
        int h = 0;
        boolean bell = false;
        int outs = 0;
        long outLow = 0;
        long outHigh = 0;
        int named = 0;
        int why = 0;
        final long[] names = new long[BANDS_MOST];
        final Bands bands = new Bands();

        void copyFrom(Board other) {
            w = other.w;
            h = other.h;
            bell = other.bell;
            outs = other.outs;
            outLow = other.outLow;
            outHigh = other.outHigh;
            named = other.named;
            System.arraycopy(other.names, 0, names, 0, BANDS_MOST);
            bands.copyFrom(other.bands);
        }

        boolean isTold() {
            return w > 0;
        }

        int pegAt(int at) {
            if (at < 0 || at >= PLACES_MOST || at % 10 >= w || at / 10 >= h) {
                return NONE;
            }
            return isOut(at) ? 0 : 1;
        }

        private boolean isOut(int at) {
            return ((at < 64 ? outLow >> at : outHigh >> (at - 64)) & 1) != 0;
        }

        private void takeOut(int at) {
            if (at < 64) {
                outLow |= 1L << at;
            } else {
                outHigh |= 1L << (at - 64);
            }
            outs++;
        }

        int place(long x, long y) {
            return x < 0 || x >= w || y < 0 || y >= h ? NONE : (int) (10 * y + x);
        }

        int idOf(long name) {
            for (int i = 0; i < named && i < BANDS_MOST; i++) {
                if (names[i] == name) {
                    return i;
                }
            }
            return NONE;
        }

        /** Why a band with these corners would be wrong, band `except` not being there. */
        int wrongOf(int[] corners, int n, int except) {
            int wrong = wrongAlone(corners, n);
            if (wrong == 0 && !bell && meetsOthers(corners, n, except)) {
                return WRONG_MEETS;
            }
            return wrong;
        }

        int wrongAlone(int[] corners, int n) {
            if (n < CORNERS_LEAST || n > corners.length) {
                return WRONG_PEG;
            }
            for (int i = 0; i < n; i++) {
                if (pegAt(corners[i]) != 1) {
                    return WRONG_PEG;
                }
            }
            for (int i = 0; i < n; i++) {
                for (int j = 0; j < i; j++) {
                    if (corners[i] == corners[j]) {
                        return WRONG_TWICE;
                    }
                }
            }
            for (int i = 0; i < n; i++) {
                if (Plane.turn(corners[i], corners[(i + 1) % n], corners[(i + 2) % n]) == 0) {
                    return WRONG_STRAIGHT;
                }
            }
            return isKnotted(corners, n) ? WRONG_KNOT : 0;
        }

        /** Sides next to one another bend, so they share their corner alone; only the others are looked at. */
        private static boolean isKnotted(int[] corners, int n) {
            for (int i = 0; i < n; i++) {
                for (int j = i + 2; j < n; j++) {
                    boolean areNext = i == 0 && j == n - 1;
                    if (!areNext && Plane.meet(corners[i], corners[i + 1], corners[j], corners[(j + 1) % n]) != APART) {
                        return true;
                    }
                }
            }
            return false;
        }

        private boolean meetsOthers(int[] corners, int n, int except) {
            for (int b = 0; b < bands.many; b++) {
                for (int i = 0; i < n && b != except; i++) {
                    for (int j = 0; j < bands.sizeOf(b); j++) {
                        int how = Plane.meet(corners[i], corners[(i + 1) % n], bands.at(b, j), bands.at(b, j + 1));
                        if (how != APART) {
                            return true;
                        }
                    }
                }
            }
            return false;
        }

        void readSize(Reader r) {
            bell = false;
            outs = 0;
            outLow = 0;
            outHigh = 0;
            named = 0;
            bands.many = 0;
            r.expect(BOARD);
            w = r.number(2, 10);
            h = r.number(2, 10);
            r.expect(';');
        }

        void readLine(Reader r, int[] row) {
            switch (r.kind) {
                case BELL:
                    if (bell) {
                        r.fail(FAULT_TWICE);
                    }
                    bell = true;
                    r.step();
                    break;
                case OUT:
                    readOut(r);
                    break;
                case BAND:
                    readBand(r, row);
                    break;
                default:
                    r.fail(FAULT_TOKEN);
                    break;
            }
            r.expect(';');
        }

        private void readOut(Reader r) {
            if (bands.many > 0) {
                r.fail(FAULT_TWICE);
            } else if (outs >= OUTS_MOST) {
                r.fail(FAULT_MANY);
            }
            r.step();
            int x = r.number(0, w - 1);
            r.checkNumber(0, h - 1);
            if (r.isFine()) {
                int at = place(x, r.value);
                if (pegAt(at) == 0) {
                    r.fail(FAULT_TWICE);
                } else if (at != NONE) {
                    takeOut(at);
                }
            }
            r.step();
        }

        private void readBand(Reader r, int[] row) {
            if (bands.many >= BANDS_MOST) {
                r.fail(FAULT_MANY);
            }
            r.step();
            readName(r);
            int n = readCorners(r, row);
            if (!r.sees(';')) {
                r.fail(FAULT_TOKEN);
            }
            if (r.isFine()) {
                why = wrongOf(row, n, NONE);
                if (why != 0) {
                    r.fail(FAULT_BAND);
                } else {
                    bands.add(named - 1, row, n);
                }
            }
        }

        private void readName(Reader r) {
            if (!r.sees(NAME)) {
                r.fail(FAULT_TOKEN);
            } else if (idOf(r.name) != NONE) {
                r.fail(FAULT_TWICE);
            } else if (named < BANDS_MOST) {
                names[named] = r.name;
                named++;
            }
            r.step();
        }

        private int readCorners(Reader r, int[] row) {
            int n = 0;
            for (int i = 0; i <= CORNERS_MOST && r.isFine(); i++) {
                if (n >= CORNERS_LEAST && r.kind != NUMBER) {
                    return n;
                }
                r.checkNumber(0, w - 1);
                if (n >= CORNERS_MOST || n >= row.length) {
                    r.fail(FAULT_MANY);
                }
                int x = r.value;
                r.step();
                int y = r.number(0, h - 1);
                if (r.isFine()) {
                    row[n] = place(x, y);
                    n++;
                }
            }
            return n;
        }
    }

    /** Calls: from where, and how far to go from corner to corner; many is 0 without calls. */
    private static final class Calls {
        int many = 0;
        int atX = 0;
        int atY = 0;
        final int[] byX = new int[CORNERS_MOST];
        final int[] byY = new int[CORNERS_MOST];

        void copyFrom(Calls other) {
            many = other.many;
            atX = other.atX;
            atY = other.atY;
            System.arraycopy(other.byX, 0, byX, 0, CORNERS_MOST);
            System.arraycopy(other.byY, 0, byY, 0, CORNERS_MOST);
        }

        void readFrom(Reader r, Board board) {
            many = 0;
            r.expect(AT);
            atX = r.number(0, board.w - 1);
            atY = r.number(0, board.h - 1);
            r.expect(';');
            for (int i = 0; i <= CORNERS_MOST && r.isFine(); i++) {
                if (many >= CORNERS_LEAST && r.kind == END) {
                    return;
                }
                readBy(r);
            }
        }

        private void readBy(Reader r) {
            if (!r.sees(BY)) {
                r.fail(FAULT_TOKEN);
            } else if (many >= CORNERS_MOST) {
                r.fail(FAULT_MANY);
            }
            r.step();
            int x = r.signedDigit();
            int y = r.signedDigit();
            r.expect(';');
            if (r.isFine() && many < CORNERS_MOST) {
                byX[many] = x;
                byY[many] = y;
                many++;
            }
        }

        private int sumX() {
            int sum = 0;
            for (int i = 0; i < many && i < CORNERS_MOST; i++) {
                sum += byX[i];
            }
            return sum;
        }

        private int sumY() {
            int sum = 0;
            for (int i = 0; i < many && i < CORNERS_MOST; i++) {
                sum += byY[i];
            }
            return sum;
        }

        boolean isClosed() {
            return sumX() == 0 && sumY() == 0;
        }

        /** All sides are told from wherever one begins, so only the way round makes calls longer or shorter. */
        void takeShortest(Bands bands, int b) {
            take(bands, b, false);
            int ahead = signs();
            take(bands, b, true);
            if (ahead <= signs()) {
                take(bands, b, false);
            }
        }

        private void take(Bands bands, int b, boolean isBack) {
            many = Math.min(bands.sizeOf(b), CORNERS_MOST);
            atX = bands.at(b, 0) % 10;
            atY = bands.at(b, 0) / 10;
            for (int i = 0; i < many; i++) {
                int from = bands.at(b, isBack ? many - i : i);
                int to = bands.at(b, isBack ? many - i - 1 : i + 1);
                byX[i] = to % 10 - from % 10;
                byY[i] = to / 10 - from / 10;
            }
        }

        private int signs() {
            int sum = 0;
            for (int i = 0; i < many && i < CORNERS_MOST; i++) {
                sum += (byX[i] < 0 ? 1 : 0) + (byY[i] < 0 ? 1 : 0);
            }
            return sum;
        }

        void tell(Bytes into) {
            into.length = 0;
            into.put('a');
            into.put('t');
            into.putNumber(atX);
            into.putNumber(atY);
            into.put(';');
            for (int i = 0; i < many && i < CORNERS_MOST; i++) {
                into.put('b');
                into.put('y');
                into.putNumber(byX[i]);
                into.putNumber(byY[i]);
                into.put(';');
            }
        }

        /** The corners as told, call `mend` (NONE: none) told so that all close. */
        void layOut(Board board, int mend, int[] into) {
            int moreX = sumX();
            int moreY = sumY();
            int x = atX;
            int y = atY;
            for (int i = 0; i < many && i < CORNERS_MOST && i < into.length; i++) {
                into[i] = board.place(x, y);
                x += byX[i] - (i == mend ? moreX : 0);
                y += byY[i] - (i == mend ? moreY : 0);
            }
        }
    }

    /** A sentence as steps, each behind those that it joins; size is 0 without one. */
    private static final class Sentence {
        int size = 0;
        int ones = 0;
        /** The word and the sign as 3 times the word's place and the sign's, 1000 times, and a number. */
        final int[] steps = new int[2 * ONES_MOST];

        void copyFrom(Sentence other) {
            size = other.size;
            ones = other.ones;
            System.arraycopy(other.steps, 0, steps, 0, 2 * ONES_MOST);
        }

        private void put(int word, int sign, int number) {
            if (size >= 0 && size < 2 * ONES_MOST) {
                steps[size] = ((word - FIRST_WORD) * 3 + sign) * 1000 + number;
                size++;
            }
        }

        void clear() {
            size = 0;
            ones = 0;
        }

        /** Reads what 'or' joins; a one that begins here is the depth-th of those within one another. */
        void readAny(Reader r, Board board, int depth) {
            readAll(r, board, depth);
            for (int i = 0; i < ONES_MOST && r.sees(OR); i++) {
                r.step();
                readAll(r, board, depth);
                put(OR, 0, 0);
            }
        }

        private void readAll(Reader r, Board board, int depth) {
            readOne(r, board, depth);
            for (int i = 0; i < ONES_MOST && r.sees(AND); i++) {
                r.step();
                readOne(r, board, depth);
                put(AND, 0, 0);
            }
        }

        private void readOne(Reader r, Board board, int depth) {
            int kind = r.kind;
            if (kind != '(' && (kind < NOT || kind > RIGHT)) {
                r.fail(FAULT_TOKEN);
            } else if (ones >= ONES_MOST || depth > DEPTH_MOST) {
                r.fail(FAULT_MANY);
            }
            if (!r.isFine()) {
                return;
            }
            ones++;
            r.step();
            if (kind == NOT) {
                readOne(r, board, depth + 1);
                put(NOT, 0, 0);
            } else if (kind == '(') {
                readAny(r, board, depth + 1);
                r.expect(')');
            } else if (kind == IN || kind == ALIKE) {
                readBandName(r, board, kind);
            } else if (kind == BENT) {
                put(BENT, 0, 0);
            } else {
                readMeasure(r, kind);
            }
        }

        private void readBandName(Reader r, Board board, int kind) {
            if (!r.sees(NAME)) {
                r.fail(FAULT_TOKEN);
                return;
            }
            int id = board.idOf(r.name);
            if (board.bands.withId(id) == NONE) {
                r.fail(FAULT_TWICE);
                return;
            }
            put(kind, 0, id);
            r.step();
        }

        private void readMeasure(Reader r, int kind) {
            int sign = r.kind - '<';
            if (sign < 0 || sign > 2) {
                r.fail(FAULT_TOKEN);
            }
            r.step();
            if (r.sees(NUMBER)) {
                put(kind, sign, r.value);
                r.step();
            } else {
                r.fail(FAULT_TOKEN);
            }
        }

        /** Joins what was found as bits, the latest lowest: 20 ones need 20 bits at most. */
        boolean holdsOf(Bands bands, int b, Shapes shapes) {
            int found = 0;
            for (int i = 0; i < size && i < 2 * ONES_MOST; i++) {
                int word = FIRST_WORD + steps[i] / 3000;
                int latest = found & 1;
                if (word == NOT) {
                    found ^= 1;
                } else if (word == AND) {
                    found = found >> 1 & (latest | -2);
                } else if (word == OR) {
                    found = found >> 1 | latest;
                } else {
                    boolean fits = fitsOne(word, steps[i], bands, b, shapes);
                    found = found << 1 | (fits ? 1 : 0);
                }
            }
            return (found & 1) != 0;
        }

        private static boolean fitsOne(int word, int step, Bands bands, int b, Shapes shapes) {
            int number = step % 1000;
            int sign = step / 1000 % 3;
            int other = bands.withId(number);
            switch (word) {
                case IN:
                    return other != NONE && bands.liesIn(b, other);
                case ALIKE:
                    return other != NONE && shapes.areAlike(bands, b, other, 2);
                case BENT:
                    return bands.bentIn(b) > 0;
                default:
                    int measure = measureOf(word, bands, b);
                    return sign == 0 ? measure < number : sign == 1 ? measure == number : measure > number;
            }
        }

        private static int measureOf(int word, Bands bands, int b) {
            switch (word) {
                case AREA:
                    return bands.areaOf(b);
                case ON:
                    return bands.placesOn(b);
                case WITHIN:
                    return bands.placesWithin(b);
                case CORNERS:
                    return bands.sizeOf(b);
                default:
                    return bands.rightOnes(b);
            }
        }
    }

    /** All that an image keeps; a line that lies is told by 100 times its lesser peg and its greater one. */
    private static final class Table {
        boolean isKept = false;
        final Board board = new Board();
        final Calls told = new Calls();
        int lying = 0;
        final int[] laid = new int[GAME_LINES_MOST];
        final Sentence sentence = new Sentence();

        void copyFrom(Table other) {
            board.copyFrom(other.board);
            told.copyFrom(other.told);
            lying = other.lying;
            System.arraycopy(other.laid, 0, laid, 0, GAME_LINES_MOST);
            sentence.copyFrom(other.sentence);
        }

        boolean addLine(int code) {
            if (lying < 0 || lying >= GAME_LINES_MOST) {
                return false;
            }
            laid[lying] = code;
            lying++;
            return true;
        }
    }

    /** Forms of bands; a pose is a number of quarter turns, 4 more if turned over first. */
    private static final class Shapes {
        private static final int LONGEST = 2 * CORNERS_MOST;
        private static final int HALF = 2;
        private static final int QUARTER = 1;
        private static final int OVER = 4;
        private static final int POSES = 8;

        final int[] told = new int[LONGEST];
        int toldMany = 0;
        private final int[] one = new int[LONGEST];
        private final int[] another = new int[LONGEST];
        private final int[] xs = new int[CORNERS_MOST];
        private final int[] ys = new int[CORNERS_MOST];

        void tell(Bands bands, int b, int how) {
            toldMany = least(bands, b, 0, lastPose(how), told);
        }

        boolean areAlike(Bands bands, int a, int b, int how) {
            int n = least(bands, a, 0, lastPose(how), one);
            return least(bands, b, 0, lastPose(how), another) == n && areSame(n);
        }

        boolean isEven(Bands bands, int b, int how) {
            int first = how == 0 ? HALF : how == 1 ? QUARTER : OVER;
            int last = how == 2 ? POSES - 1 : first;
            int n = least(bands, b, 0, 0, one);
            for (int pose = first; pose <= last; pose++) {
                least(bands, b, pose, pose, another);
                if (areSame(n)) {
                    return true;
                }
            }
            return false;
        }

        private static int lastPose(int how) {
            return how == 0 ? 0 : how == 1 ? OVER - 1 : POSES - 1;
        }

        private boolean areSame(int n) {
            for (int i = 0; i < n && i < LONGEST; i++) {
                if (one[i] != another[i]) {
                    return false;
                }
            }
            return true;
        }

        /** The least row of a band in poses first to last: how many numbers it has. */
        private int least(Bands bands, int b, int first, int last, int[] into) {
            int n = Math.min(bands.sizeOf(b), CORNERS_MOST);
            boolean isFirst = true;
            for (int pose = first; pose <= last && pose < POSES; pose++) {
                takePose(bands, b, pose, n);
                for (int i = 0; i < 2 * n; i++) {
                    int start = i / 2;
                    int way = i % 2 == 0 ? 1 : -1;
                    if (isFirst || isLess(start, way, n, into)) {
                        fill(start, way, n, into);
                        isFirst = false;
                    }
                }
            }
            return 2 * n;
        }

        private void takePose(Bands bands, int b, int pose, int n) {
            int leastX = PLACES_MOST;
            int leastY = PLACES_MOST;
            for (int i = 0; i < n; i++) {
                int x = bands.at(b, i) % 10;
                int y = bands.at(b, i) / 10;
                if (pose >= OVER) {
                    x = -x;
                }
                for (int turned = 0; turned < pose % OVER; turned++) {
                    int before = x;
                    x = -y;
                    y = before;
                }
                xs[i] = x;
                ys[i] = y;
                leastX = Math.min(leastX, x);
                leastY = Math.min(leastY, y);
            }
            for (int i = 0; i < n; i++) {
                xs[i] -= leastX;
                ys[i] -= leastY;
            }
        }

        private int numberAt(int start, int way, int n, int i) {
            if (n <= 0 || n > CORNERS_MOST) {
                return 0;
            }
            int corner = Math.floorMod(start + way * (i / 2), n);
            return i % 2 == 0 ? xs[corner] : ys[corner];
        }

        private boolean isLess(int start, int way, int n, int[] than) {
            for (int i = 0; i < 2 * n && i < than.length; i++) {
                int here = numberAt(start, way, n, i);
                if (here != than[i]) {
                    return here < than[i];
                }
            }
            return false;
        }

        private void fill(int start, int way, int n, int[] into) {
            for (int i = 0; i < 2 * n && i < into.length; i++) {
                into[i] = numberAt(start, way, n, i);
            }
        }
    }

    /** A row of places: the pegs of a board for its triangles, or the places along a band for its cuts. */
    private static final class Places {
        private final int[] places = new int[PLACES_MOST];
        private int many = 0;

        /** Pick's rule: so many places on and within leave one area. */
        static int areaWith(int on, int within) {
            return 2 * within + on - 2;
        }

        int findTriangle(Board board, int on, int within, int k) {
            takePegs(board);
            int area = areaWith(on, within);
            boolean hasRoom = area > 0 && area <= (board.w - 1) * (board.h - 1);
            int found = 0;
            for (int i = 0; i < many && hasRoom; i++) {
                for (int j = i + 1; j < many; j++) {
                    int a = places[i];
                    int b = places[j];
                    int dx = b % 10 - a % 10;
                    int dy = b / 10 - a / 10;
                    int base = dx * (a / 10) - dy * (a % 10);
                    for (int l = j + 1; l < many; l++) {
                        int c = places[l];
                        int twice = dx * (c / 10) - dy * (c % 10) - base;
                        if ((twice == area || twice == -area) && placesOn(a, b, c) == on) {
                            if (found == k) {
                                return 10000 * a + 100 * b + c;
                            }
                            found++;
                        }
                    }
                }
            }
            return k == NONE ? found : NONE;
        }

        private static int placesOn(int a, int b, int c) {
            return Plane.parts(a, b) + Plane.parts(b, c) + Plane.parts(c, a);
        }

        private void takePegs(Board board) {
            many = 0;
            for (int at = 0; at < PLACES_MOST; at++) {
                if (board.pegAt(at) == 1 && many < PLACES_MOST) {
                    places[many] = at;
                    many++;
                }
            }
        }

        int findCut(Bands bands, int b, int k) {
            takeAlong(bands, b);
            int whole = bands.signedArea(b);
            int found = 0;
            for (int i = 0; i < many; i++) {
                int part = 0;
                for (int j = i + 1; j < many; j++) {
                    part += Plane.shoelace(places[j - 1], places[j]);
                    boolean isHalf = 2 * (part + Plane.shoelace(places[j], places[i])) == whole;
                    if (isHalf && runsInside(bands, b, places[i], places[j])) {
                        if (found == k) {
                            return 100 * places[i] + places[j];
                        }
                        found++;
                    }
                }
            }
            return k == NONE ? found : NONE;
        }

        private void takeAlong(Bands bands, int b) {
            many = 0;
            for (int i = 0; i < bands.sizeOf(b); i++) {
                int from = bands.at(b, i);
                int to = bands.at(b, i + 1);
                int parts = Plane.parts(from, to);
                for (int part = 0; part < parts && many < PLACES_MOST; part++) {
                    // Both are whole steps: parts divides the way from one corner to the next.
                    int x = from % 10 + (to % 10 - from % 10) / parts * part;
                    int y = from / 10 + (to / 10 - from / 10) / parts * part;
                    places[many] = 10 * y + x;
                    many++;
                }
            }
        }

        private static boolean runsInside(Bands bands, int b, int p, int q) {
            for (int i = 0; i < bands.sizeOf(b); i++) {
                if (isStopped(p, q, bands.at(b, i), bands.at(b, i + 1))) {
                    return false;
                }
            }
            return bands.encloses(b, p % 10 + q % 10, p / 10 + q / 10);
        }

        /** Whether the side from a to b has a point in common with the way from p to q between its ends. */
        private static boolean isStopped(int p, int q, int a, int b) {
            boolean isOnP = Plane.isOn(p, a, b);
            boolean isOnQ = Plane.isOn(q, a, b);
            if (isOnP && isOnQ) {
                return true;
            }
            if (isOnP) {
                return leadsAlong(p, q, a, b);
            }
            if (isOnQ) {
                return leadsAlong(q, p, a, b);
            }
            return Plane.meet(p, q, a, b) != APART;
        }

        /** Whether the way from a place on the side goes along the side. */
        private static boolean leadsAlong(int from, int to, int a, int b) {
            return Plane.turn(a, b, to) == 0 && (Plane.along(from, to, a) > 0 || Plane.along(from, to, b) > 0);
        }
    }

    /** Moves of one triangle into another: from all triangles reached at once, as bits, to all the next ones. */
    private static final class Mover {
        private static final int TRIPLES = 7140;
        private static final int LONGS = 112;

        private final long[] seen = new long[LONGS];
        private final long[] edge = new long[LONGS];
        private final long[] next = new long[LONGS];
        private final int[] pegs = new int[MOVED_PLACES_MOST];
        private final boolean[] isPeg = new boolean[MOVED_PLACES_MOST];
        private int w = 0;
        private int places = 0;

        int fewest(Board board, int a, int b) {
            w = board.w;
            places = board.w * board.h;
            if (w <= 0 || places > MOVED_PLACES_MOST) {
                return NONE;
            }
            for (int i = 0; i < places; i++) {
                pegs[i] = i / w * 10 + i % w;
                isPeg[i] = board.pegAt(pegs[i]) == 1;
            }
            int goal = numberOf(board.bands, b);
            int start = numberOf(board.bands, a);
            Arrays.fill(seen, 0);
            Arrays.fill(edge, 0);
            mark(seen, start);
            mark(edge, start);
            for (int moves = 0; moves <= TRIPLES; moves++) {
                if (isMarked(edge, goal)) {
                    return moves;
                }
                if (!spread()) {
                    return NONE;
                }
            }
            return NONE;
        }

        private int numberOf(Bands bands, int b) {
            return number(indexOf(bands.at(b, 0)), indexOf(bands.at(b, 1)), indexOf(bands.at(b, 2)));
        }

        private int indexOf(int peg) {
            return peg / 10 * w + peg % 10;
        }

        /** Three different places, whichever comes first, have one number below TRIPLES. */
        private static int number(int p, int q, int r) {
            int high = Math.max(p, Math.max(q, r));
            int low = Math.min(p, Math.min(q, r));
            int middle = p + q + r - high - low;
            return high * (high - 1) * (high - 2) / 6 + middle * (middle - 1) / 2 + low;
        }

        private static boolean isMarked(long[] bits, int number) {
            return number >= 0 && number >> 6 < bits.length && (bits[number >> 6] >> (number & 63) & 1) != 0;
        }

        private static void mark(long[] bits, int number) {
            if (number >= 0 && number >> 6 < bits.length) {
                bits[number >> 6] |= 1L << (number & 63);
            }
        }

        /** One move on from all of the edge: whether triangles came that were not seen yet. */
        private boolean spread() {
            Arrays.fill(next, 0);
            // The numbers rise one by one in this order of places.
            int number = 0;
            for (int r = 2; r < places; r++) {
                for (int q = 1; q < r; q++) {
                    for (int p = 0; p < q; p++) {
                        if (isMarked(edge, number + p)) {
                            moveFirst(p, q, r);
                            moveFirst(q, p, r);
                            moveFirst(r, p, q);
                        }
                    }
                    number += q;
                }
            }
            System.arraycopy(next, 0, edge, 0, LONGS);
            for (int i = 0; i < LONGS; i++) {
                if (next[i] != 0) {
                    return true;
                }
            }
            return false;
        }

        private void moveFirst(int p, int q, int r) {
            if (w <= 0) {
                return;
            }
            int x = p % w;
            if (x > 0) {
                reach(p - 1, q, r);
            }
            if (x < w - 1) {
                reach(p + 1, q, r);
            }
            reach(p - w, q, r);
            reach(p + w, q, r);
        }

        private void reach(int p, int q, int r) {
            if (p < 0 || p >= places || p >= MOVED_PLACES_MOST || !isPeg[p]) {
                return;
            }
            if (Plane.turn(pegs[p], pegs[q], pegs[r]) == 0) {
                return;
            }
            int number = number(p, q, r);
            if (!isMarked(seen, number)) {
                mark(seen, number);
                mark(next, number);
            }
        }
    }

    /** The game's lines on a board, rising, and which of them hinder which, as bits. */
    private static final class Game {
        private final int[] pegs = new int[GAME_PEGS_MOST];
        private final int[] codes = new int[GAME_PAIRS_MOST];
        private final long[] hindered = new long[GAME_PAIRS_MOST];
        private int pairs = 0;

        /** False if there is no game on this board. */
        boolean begin(Board board) {
            int many = 0;
            for (int at = 0; at < PLACES_MOST; at++) {
                if (board.pegAt(at) == 1) {
                    if (many >= GAME_PEGS_MOST) {
                        return false;
                    }
                    pegs[many] = at;
                    many++;
                }
            }
            pairs = 0;
            for (int i = 0; i < many; i++) {
                for (int j = i + 1; j < many; j++) {
                    if (Plane.parts(pegs[i], pegs[j]) == 1 && pairs < GAME_PAIRS_MOST) {
                        codes[pairs] = 100 * pegs[i] + pegs[j];
                        pairs++;
                    }
                }
            }
            findHindered();
            return board.isTold();
        }

        private void findHindered() {
            for (int i = 0; i < pairs; i++) {
                hindered[i] = 0;
                for (int j = 0; j < pairs; j++) {
                    if (Plane.meet(codes[i] / 100, codes[i] % 100, codes[j] / 100, codes[j] % 100) != APART) {
                        hindered[i] |= 1L << j;
                    }
                }
            }
        }

        int codeOf(int i) {
            return i < 0 || i >= pairs ? NONE : codes[i];
        }

        int pairOf(int lesser, int greater) {
            for (int i = 0; i < pairs; i++) {
                if (codes[i] / 100 == lesser && codes[i] % 100 == greater) {
                    return i;
                }
            }
            return NONE;
        }

        /** The lines that can be laid yet, as bits. */
        long openOn(Table table) {
            long open = (1L << pairs) - 1;
            for (int i = 0; i < table.lying && i < GAME_LINES_MOST; i++) {
                int pair = pairOf(table.laid[i] / 100, table.laid[i] % 100);
                if (pair != NONE) {
                    open &= ~hindered[pair];
                }
            }
            return open;
        }

        int choice(long open, int k) {
            int found = 0;
            for (int i = 0; i < pairs; i++) {
                if ((open >> i & 1) != 0) {
                    if (found == k) {
                        return codes[i];
                    }
                    found++;
                }
            }
            return k == NONE ? found : NONE;
        }

        int winning(long open) {
            int i = winningPair(open, 0);
            return i == NONE ? NONE : codeOf(i);
        }

        /** The first line that leaves the other one nothing to win by; each line takes two pegs, so few are laid. */
        private int winningPair(long open, int depth) {
            if (depth > GAME_LINES_MOST) {
                return NONE;
            }
            for (int i = 0; i < pairs; i++) {
                if ((open >> i & 1) != 0 && winningPair(open & ~hindered[i], depth + 1) == NONE) {
                    return i;
                }
            }
            return NONE;
        }
    }
}
