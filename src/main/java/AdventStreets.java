import java.util.Arrays;

/**
 * A street of advent windows: read from a text, lived through turn by turn and by hand, foretold,
 * asked, undone and kept as images. README.md says how to use it; DOC.md's words stand in its names.
 *
 * Every call makes no object: all that a call needs is made once, in the constructors.
 */
public final class AdventStreets {
    public static final int NONE = -1000000, BAD = -1000001, STATE = -1000002, FULL = -1000003;

    private static final int FINDING = -1000010;
    private static final int MISSING_ROW = 1;
    private static final int NO_PLACE = 2;
    private static final int OTHER_KIND = 3;
    private static final int BELOW_NONE = 4;
    private static final int TWO_LANES = 5;

    private static final int FAULT_AT = -1000100;
    private static final int MISPLACED = 1;
    private static final int OUT_OF_RANGE = 2;
    private static final int NO_ROOM = 3;

    private static final int MOST_ROWS = 8;
    private static final int NO_LANE = -1;
    private static final int MOST_LANES = 3;
    private static final int MOST_ITEMS = 40;
    private static final int MOST_BYTES = 130;
    private static final int LEAST_WINDOWS = 2;
    private static final int MOST_WINDOWS = 10;
    private static final int LEAST_EVE = 2;
    private static final int MOST_EVE = 24;
    private static final int MOST_SIGHT = 3;
    private static final int MOST_DAY = 24;
    private static final int MOST_PICTURE = 9;
    private static final int MOST_GLUE = 9;
    private static final int TIGHT_HOLDS_ABOVE = 4;
    private static final int MOST_TURNS = 24;
    private static final int MOST_TIME = 9999;
    private static final int FAR = 60;
    private static final int MOST_TOLD = 12;
    private static final int MOST_ACTS = 24;
    private static final int MOST_IMAGES = 2;
    private static final int MOST_TRACE = 16;
    private static final int MOST_SEED = 999999;
    private static final int TENTHS = 10;

    private static final int FLAP = 1;
    private static final int DOUBLE = 2;
    private static final int CARD = 3;
    private static final int TIGHT = 4;
    private static final int RULER = 5;

    /** By KIND: the nearest KIND that it is, too (0 WINDOW is the root). */
    private static final int[] IS_TOO = {0, 0, 1, 1, 0, 4};
    private static final int SIZE = 0;
    private static final int MARK = 1;
    /** By KIND: the BODY that begins when SIZE, or MARK, is asked. */
    private static final int[] SIZE_BODIES = {10, 11, 12, 11, 13, 14};
    private static final int[] MARK_BODIES = {20, 21, 24, 22, 23, 23};
    /** Bodies stand open five deep at most; the guard lies above that. */
    private static final int MOST_BODIES = 8;

    private final Rows rows = new Rows();
    private final Tape tape = new Tape();
    private final Street now = new Street();
    private final Foretold foretold = new Foretold();
    private final Acts acts = new Acts();
    private final Street[] images = new Street[MOST_IMAGES];
    private final Trace left = new Trace();
    private int latestFault;
    private int latestFinding;

    public AdventStreets() {
        for (int k = 0; k < MOST_IMAGES; k++) {
            images[k] = new Street();
        }
    }

    // ---- rows

    public int row(int row, int lane, int n) {
        if (!isRow(row) || !isWithin(lane, 0, MOST_LANES - 1) || n > MOST_ITEMS) {
            return BAD;
        }
        if (n < 0) {
            return found(BELOW_NONE);
        }
        rows.make(row, lane, n);
        return unfound(n);
    }

    public int set(int row, int i, int v) {
        if (!isRow(row)) {
            return BAD;
        }
        if (rows.isMissing(row)) {
            return found(MISSING_ROW);
        }
        if (!rows.reaches(row, i, 1)) {
            return found(NO_PLACE);
        }
        return unfound(rows.put(row, i, v));
    }

    public int copy(int a, int i, int b, int j, int n) {
        if (!isRow(a) || !isRow(b)) {
            return BAD;
        }
        if (rows.isMissing(a) || rows.isMissing(b)) {
            return found(MISSING_ROW);
        }
        if (rows.lanes[a] != rows.lanes[b]) {
            return found(TWO_LANES);
        }
        if (!rows.reaches(a, i, n) || !rows.reaches(b, j, n)) {
            return found(NO_PLACE);
        }
        System.arraycopy(rows.items[a], i, rows.items[b], j, n);
        return unfound(n);
    }

    public int drop(int row) {
        if (!isRow(row)) {
            return BAD;
        }
        if (rows.isMissing(row)) {
            return found(MISSING_ROW);
        }
        int had = rows.lengths[row];
        rows.lanes[row] = NO_LANE;
        return unfound(had);
    }

    // ---- streets, acts

    public int feed(int letter) {
        if (!isWithin(letter, 0, 255)) {
            return BAD;
        }
        return tape.add(letter) ? tape.length : FULL;
    }

    public int street() {
        Street fresh = foretold.trial;
        Reader reader = tape.reader;
        reader.readStreet(tape, fresh);
        tape.length = 0;
        if (reader.fault != 0) {
            latestFault = reader.fault;
            return FAULT_AT - reader.at;
        }
        now.take(fresh);
        acts.forget();
        return now.windows;
    }

    public int fault() {
        return latestFault;
    }

    public int times(int n) {
        if (isStreetless()) {
            return STATE;
        }
        if (!isWithin(n, 1, MOST_TURNS)) {
            return BAD;
        }
        if (now.time + n > MOST_TIME) {
            return FULL;
        }
        for (int t = 0; t < n; t++) {
            acts.keep(now);
            now.turn();
        }
        return now.opened;
    }

    public int open(int window) {
        if (!isWindow(window)) {
            return BAD;
        }
        if (now.isOpen(window)) {
            return STATE;
        }
        acts.keep(now);
        now.opened |= 1 << window;
        return now.pictures[window];
    }

    public int press(int window) {
        if (!isWindow(window)) {
            return BAD;
        }
        if (!now.isOpen(window)) {
            return STATE;
        }
        acts.keep(now);
        now.opened &= ~(1 << window);
        return now.glues[window];
    }

    public int glue(int window, int n) {
        if (!isWindow(window) || !isWithin(n, 1, MOST_GLUE)) {
            return BAD;
        }
        acts.keep(now);
        now.glues[window] = Math.min(MOST_GLUE, now.glues[window] + n);
        return now.glues[window];
    }

    public int trade(int one, int other) {
        if (!isWindow(one) || !isWindow(other) || one == other) {
            return BAD;
        }
        acts.keep(now);
        now.changeDays(one, other);
        return now.days[one];
    }

    public int sight(int v) {
        if (isStreetless()) {
            return STATE;
        }
        if (!isWithin(v, 0, MOST_SIGHT)) {
            return BAD;
        }
        acts.keep(now);
        int was = now.sight;
        now.sight = v;
        return was;
    }

    public int undo() {
        if (!acts.takeBack(now)) {
            return STATE;
        }
        return acts.kept;
    }

    public int window(int window, int what) {
        if (!isWindow(window)) {
            return BAD;
        }
        switch (what) {
            case 0:
                return now.days[window];
            case 1:
                return now.pictures[window];
            case 2:
                return now.glues[window];
            case 3:
                return now.isOpen(window) ? 1 : 0;
            case 4:
                return now.seen[window];
            case 5:
                return now.wouldOpen(window, now.date()) ? 1 : 0;
            default:
                return BAD;
        }
    }

    // ---- foretold

    public int opens(int d) {
        if (isStreetless()) {
            return STATE;
        }
        if (!isWithin(d, 0, FAR)) {
            return BAD;
        }
        return foretold.behind(now, d).opened;
    }

    public int ahead(int window, int d, int what) {
        if (!isWindow(window) || !isWithin(d, 0, FAR) || !isEither(what)) {
            return BAD;
        }
        Street then = foretold.behind(now, d);
        return what == 0 ? then.glues[window] : then.seen[window];
    }

    public int spots(int window, int picture) {
        if (!isWindow(window) || !isWithin(picture, 0, MOST_PICTURE)) {
            return BAD;
        }
        return foretold.turnsTillSeen(now, window, picture);
    }

    public int off(int what) {
        if (isStreetless()) {
            return STATE;
        }
        if (!isEither(what)) {
            return BAD;
        }
        int turns = foretold.turnsTillBare(now);
        return what == 0 ? foretold.trial.firstBare() : turns;
    }

    public int shut(int window, int n, int what) {
        if (!isWindow(window) || !isWithin(n, 1, MOST_TURNS) || !isEither(what)) {
            return BAD;
        }
        int fewest = foretold.fewestGlued(now, window, n);
        if (fewest == NONE) {
            return NONE;
        }
        return what == 0 ? Integer.bitCount(fewest) : fewest;
    }

    public int trades(int window, int n, int what) {
        if (!isWindow(window) || !isWithin(n, 1, MOST_TURNS) || !isEither(what)) {
            return BAD;
        }
        int pair = foretold.bestTrade(now, window, n);
        return what == 0 ? pair : foretold.mostSeen;
    }

    public int along(int window, int what) {
        if (!isWindow(window) || !isEither(what)) {
            return BAD;
        }
        int know = 1 << window;
        int steps = 0;
        for (int step = 1; step <= now.windows; step++) {
            int then = know | now.near(know) & now.shutOnes();
            if (then == know) {
                break;
            }
            know = then;
            steps = step;
        }
        return what == 0 ? steps : Integer.bitCount(know);
    }

    public int alike(int what) {
        if (isStreetless()) {
            return STATE;
        }
        if (!isEither(what)) {
            return BAD;
        }
        int pairs = 0;
        int first = NONE;
        for (int a = 0; a < now.windows; a++) {
            for (int b = a + 1; b < now.windows; b++) {
                if (now.pictures[a] == now.pictures[b]) {
                    pairs++;
                    first = first == NONE ? 10 * a + b : first;
                }
            }
        }
        return what == 0 ? pairs : first;
    }

    public int guess(int window) {
        if (!isWindow(window)) {
            return BAD;
        }
        return now.picturesOf(now.all()) & ~now.seen[window];
    }

    public int fits(int window, int row, int i, int n, int what) {
        if (!isWindow(window) || !isRow(row) || !isWithin(n, 1, MOST_TOLD) || !isWithin(what, 0, 3)) {
            return BAD;
        }
        if (rows.isMissing(row)) {
            return found(MISSING_ROW);
        }
        if (!rows.reaches(row, i, n)) {
            return found(NO_PLACE);
        }
        return unfound(foretold.fitting(now, window, rows.items[row], i, n, what));
    }

    public long wind(int window, int n, int c, int what) {
        if (!isWindow(window) || !isWithin(n, 0, MOST_TURNS) || !isWithin(c, 0, TENTHS) || !isEither(what)) {
            return BAD;
        }
        int part = now.touching(window);
        long above = foretold.windyWays(now, window, n, c, part);
        long below = power(TENTHS, Integer.bitCount(part & now.shutOnes()));
        long common = commonDivisor(above, below);
        if (common <= 0) {
            return BAD;
        }
        return (what == 0 ? above : below) / common;
    }

    public int drawn(int n, int seed, int what) {
        if (isStreetless()) {
            return STATE;
        }
        if (!isWithin(n, 0, FAR) || !isWithin(seed, 1, MOST_SEED) || !isEither(what)) {
            return BAD;
        }
        Street then = foretold.years(now, n, seed);
        return Integer.bitCount(what == 0 ? then.opened : then.seenBySome());
    }

    public int image(int k) {
        if (!isWithin(k, 0, MOST_IMAGES - 1)) {
            return BAD;
        }
        if (isStreetless()) {
            return STATE;
        }
        images[k].take(now);
        return 1;
    }

    public int restore(int k) {
        if (!isWithin(k, 0, MOST_IMAGES - 1)) {
            return BAD;
        }
        if (images[k].windows == 0) {
            return STATE;
        }
        now.take(images[k]);
        acts.forget();
        return 1;
    }

    // ---- asked

    public int kind(int window) {
        return isWindow(window) ? now.kinds[window] : BAD;
    }

    public int as(int window, int kind) {
        if (!isWindow(window) || !isWithin(kind, 0, RULER)) {
            return BAD;
        }
        return isOfKind(now.kinds[window], kind) ? unfound(window) : found(OTHER_KIND);
    }

    public int ask(int window, int what) {
        if (!isWindow(window) || !isEither(what)) {
            return BAD;
        }
        left.length = 0;
        return answer(now, left, firstBody(now.kinds[window], what), window, 0);
    }

    public int trace(int i) {
        return isWithin(i, 0, left.length - 1) ? left.bodies[i] : NONE;
    }

    public int count(int what) {
        switch (what) {
            case 0:
                return rows.present();
            case 1:
                return now.windows;
            case 2:
                return now.time;
            case 3:
                return now.date();
            case 4:
                return now.eve;
            case 5:
                return now.sight;
            case 6:
                return now.opened;
            case 7:
                return acts.kept;
            case 8:
                return tape.length;
            default:
                return BAD;
        }
    }

    public int status() {
        return latestFinding;
    }

    // ---- what the calls share

    private int found(int number) {
        latestFinding = number;
        return FINDING - number;
    }

    private int unfound(int answer) {
        latestFinding = 0;
        return answer;
    }

    private boolean isStreetless() {
        return now.windows == 0;
    }

    private boolean isWindow(int window) {
        return window >= 0 && window < now.windows;
    }

    private static boolean isRow(int row) {
        return row >= 0 && row < MOST_ROWS;
    }

    private static boolean isEither(int what) {
        return what == 0 || what == 1;
    }

    private static boolean isWithin(int v, int least, int most) {
        return v >= least && v <= most;
    }

    private static boolean isOfKind(int kind, int asked) {
        int at = kind;
        for (int up = 0; up < IS_TOO.length && at != asked; up++) {
            at = isWithin(at, 0, IS_TOO.length - 1) ? IS_TOO[at] : 0;
        }
        return at == asked;
    }

    private static int firstBody(int kind, int what) {
        if (!isWithin(kind, FLAP, RULER)) {
            return NONE;
        }
        return what == SIZE ? SIZE_BODIES[kind] : MARK_BODIES[kind];
    }

    /** What the BODY of a number answers of a WINDOW; it leaves its number first. */
    private static int answer(Street street, Trace left, int body, int window, int depth) {
        if (depth > MOST_BODIES) {
            return 0;
        }
        left.add(body);
        int deeper = depth + 1;
        int kind = street.kinds[window];
        switch (body) {
            case 10:
                return street.pictures[window];
            case 11:
                return answer(street, left, 10, window, deeper)
                        + answer(street, left, firstBody(kind, MARK), window, deeper);
            case 12:
                return -answer(street, left, 11, window, deeper);
            case 13:
                return answer(street, left, 10, window, deeper) - 100;
            case 14:
                return 2 * answer(street, left, 13, window, deeper);
            case 20:
                return window;
            case 21:
                return answer(street, left, 20, window, deeper) + street.glues[window];
            case 22:
                return answer(street, left, 21, window, deeper) - 1000;
            case 23:
                return answer(street, left, 20, window, deeper)
                        - answer(street, left, firstBody(kind, SIZE), window, deeper);
            case 24:
                return 2 * answer(street, left, 21, window, deeper);
            default:
                return 0;
        }
    }

    private static long power(int base, int n) {
        long product = 1;
        for (int i = 0; i < n; i++) {
            product *= base;
        }
        return product;
    }

    private static long commonDivisor(long a, long b) {
        long greater = a;
        long lesser = b;
        // Each two rounds halve the lesser one: a long is through in far fewer than 200.
        for (int round = 0; round < 200 && lesser != 0; round++) {
            long rest = greater % lesser;
            greater = lesser;
            lesser = rest;
        }
        return greater;
    }

    /** ROWS 0 .. 7, each missing (NO_LANE) or with a LANE and ITEMS. */
    private static final class Rows {
        private final int[] lanes = new int[MOST_ROWS];
        private final int[] lengths = new int[MOST_ROWS];
        private final int[][] items = new int[MOST_ROWS][MOST_ITEMS];

        Rows() {
            Arrays.fill(lanes, NO_LANE);
        }

        boolean isMissing(int row) {
            return lanes[row] == NO_LANE;
        }

        void make(int row, int lane, int n) {
            lanes[row] = lane;
            lengths[row] = n;
            Arrays.fill(items[row], 0);
        }

        /** Whether n ITEMS from i on lie in the ROW (written so that no sum can wrap). */
        boolean reaches(int row, int i, int n) {
            return i >= 0 && n >= 0 && n <= lengths[row] && i <= lengths[row] - n;
        }

        int put(int row, int i, int v) {
            int lane = lanes[row];
            items[row][i] = lane == 0 ? (byte) v : lane == 1 ? (short) v : v;
            return items[row][i];
        }

        int present() {
            int there = 0;
            for (int row = 0; row < MOST_ROWS; row++) {
                there += isMissing(row) ? 0 : 1;
            }
            return there;
        }
    }

    /** The bytes that wait to be read. */
    private static final class Tape {
        private final int[] bytes = new int[MOST_BYTES];
        private final Reader reader = new Reader();
        private int length;

        boolean add(int letter) {
            if (length >= MOST_BYTES) {
                return false;
            }
            bytes[length] = letter;
            length++;
            return true;
        }

        /** The byte at a place, or NONE behind the end. */
        int at(int place) {
            return place >= 0 && place < length ? bytes[place] : NONE;
        }
    }

    /** Reads a STREET, TOKEN by TOKEN; at the first FAULT it stays where that TOKEN begins. */
    private static final class Reader {
        private int at;
        private int fault;

        void readStreet(Tape tape, Street street) {
            at = 0;
            fault = 0;
            readLaw(tape, street);
            for (int w = 0; w <= MOST_WINDOWS && fault == 0; w++) {
                if (w >= LEAST_WINDOWS && at == tape.length) {
                    return;
                }
                readWindow(tape, street);
            }
        }

        private void readLaw(Tape tape, Street street) {
            readByte(tape, 'e');
            int eve = readNumber(tape, LEAST_EVE, MOST_EVE);
            readByte(tape, ',');
            int sight = readNumber(tape, 0, MOST_SIGHT);
            readByte(tape, ';');
            street.begin(eve, sight);
        }

        private void readWindow(Tape tape, Street street) {
            int kind = readSort(tape, street.windows < MOST_WINDOWS);
            int day = readNumber(tape, 1, MOST_DAY);
            readByte(tape, ',');
            int picture = readNumber(tape, 0, MOST_PICTURE);
            readByte(tape, ',');
            int glue = readNumber(tape, 0, MOST_GLUE);
            readByte(tape, ';');
            if (fault == 0) {
                street.build(kind, day, picture, glue);
            }
        }

        private int readSort(Tape tape, boolean hasRoom) {
            int kind = kindOf(tape.at(at));
            if (kind == NONE) {
                fail(MISPLACED);
            } else if (!hasRoom) {
                fail(NO_ROOM);
            } else {
                at++;
            }
            return kind;
        }

        private void readByte(Tape tape, int due) {
            if (fault != 0) {
                return;
            }
            if (tape.at(at) == due) {
                at++;
            } else {
                fail(MISPLACED);
            }
        }

        private int readNumber(Tape tape, int least, int most) {
            if (fault != 0) {
                return 0;
            }
            int value = 0;
            int figures = 0;
            for (int c = tape.at(at); c >= '0' && c <= '9' && figures < 3; c = tape.at(at + figures)) {
                value = 10 * value + c - '0';
                figures++;
            }
            if (figures == 0 || figures > 2) {
                fail(MISPLACED);
            } else if (!isWithin(value, least, most)) {
                fail(OUT_OF_RANGE);
            } else {
                at += figures;
            }
            return value;
        }

        private void fail(int number) {
            fault = number;
        }

        private static int kindOf(int letter) {
            switch (letter) {
                case 'f':
                    return FLAP;
                case 'd':
                    return DOUBLE;
                case 'c':
                    return CARD;
                case 't':
                    return TIGHT;
                case 'r':
                    return RULER;
                default:
                    return NONE;
            }
        }
    }

    /** A STREET as it stands at one TIME; no WINDOWS, no STREET. */
    private static final class Street {
        private final int[] kinds = new int[MOST_WINDOWS];
        private final int[] days = new int[MOST_WINDOWS];
        private final int[] pictures = new int[MOST_WINDOWS];
        private final int[] glues = new int[MOST_WINDOWS];
        private final int[] seen = new int[MOST_WINDOWS];
        private int windows;
        private int eve;
        private int sight;
        private int time;
        private int opened;

        void take(Street other) {
            System.arraycopy(other.kinds, 0, kinds, 0, MOST_WINDOWS);
            System.arraycopy(other.days, 0, days, 0, MOST_WINDOWS);
            System.arraycopy(other.pictures, 0, pictures, 0, MOST_WINDOWS);
            System.arraycopy(other.glues, 0, glues, 0, MOST_WINDOWS);
            System.arraycopy(other.seen, 0, seen, 0, MOST_WINDOWS);
            windows = other.windows;
            eve = other.eve;
            sight = other.sight;
            time = other.time;
            opened = other.opened;
        }

        void begin(int itsEve, int itsSight) {
            windows = 0;
            eve = itsEve;
            sight = itsSight;
            time = 0;
            opened = 0;
        }

        void build(int kind, int day, int picture, int glue) {
            if (windows >= MOST_WINDOWS) {
                return;
            }
            kinds[windows] = kind;
            days[windows] = day;
            pictures[windows] = picture;
            glues[windows] = glue;
            seen[windows] = 0;
            windows++;
        }

        int date() {
            return eve > 0 ? time % eve + 1 : 0;
        }

        int all() {
            return (1 << windows) - 1;
        }

        /** The WINDOWS (bits) that are SHUT. */
        int shutOnes() {
            return all() & ~opened;
        }

        boolean isOpen(int window) {
            return (opened >> window & 1) != 0;
        }

        void changeDays(int one, int other) {
            int day = days[one];
            days[one] = days[other];
            days[other] = day;
        }

        /** Whether a WINDOW, were it SHUT, OPENS in a TURN of this DATE, by what is OPEN now. */
        boolean wouldOpen(int window, int date) {
            boolean isDay = date == days[window];
            boolean isLoose = glues[window] <= TIGHT_HOLDS_ABOVE;
            switch (kinds[window]) {
                case FLAP:
                    return isDay;
                case DOUBLE:
                    return isDay || date == days[window] + 1;
                case CARD:
                    return isDay || glues[window] == 0;
                case TIGHT:
                    return isDay && isLoose;
                case RULER:
                    return isDay && isLoose || ((opened << 1 | opened >> 1) >> window & 1) != 0;
                default:
                    return false;
            }
        }

        void turn() {
            int date = date();
            int opening = opening(date, all());
            opened |= opening;
            look();
            close(date, opening);
        }

        /** A TURN of some WINDOWS (bits) alone, where nobody needs to look: the others rest. */
        void turnUnseen(int part) {
            int date = date();
            int opening = opening(date, part);
            opened |= opening;
            close(date, opening);
        }

        private int opening(int date, int part) {
            int opening = 0;
            for (int w = 0; w < windows; w++) {
                if (((part & ~opened) >> w & 1) != 0 && wouldOpen(w, date)) {
                    opening |= 1 << w;
                }
            }
            return opening;
        }

        private void look() {
            if (opened == 0 || sight == 0) {
                return;
            }
            for (int w = 0; w < windows; w++) {
                seen[w] |= picturesOf(opened & near(1 << w));
            }
        }

        private void close(int date, int opening) {
            if (date == eve) {
                wear(opened);
                opened = 0;
            } else {
                wear(opening);
            }
            time++;
        }

        private void wear(int some) {
            for (int w = 0; w < windows; w++) {
                if ((some >> w & 1) != 0 && glues[w] > 0) {
                    glues[w]--;
                }
            }
        }

        /**
         * What is SIGHT or fewer apart from some WINDOWS (not these themselves, if alone); it may
         * lie beyond the last WINDOW, where nothing is OPEN and nothing SHUT.
         */
        int near(int some) {
            int near = 0;
            for (int apart = 1; apart <= sight; apart++) {
                near |= some << apart | some >> apart;
            }
            return near;
        }

        int picturesOf(int some) {
            int bits = 0;
            for (int w = 0; w < windows; w++) {
                if ((some >> w & 1) != 0) {
                    bits |= 1 << pictures[w];
                }
            }
            return bits;
        }

        int seenBySome() {
            int bits = 0;
            for (int w = 0; w < windows; w++) {
                bits |= seen[w];
            }
            return bits;
        }

        int firstBare() {
            for (int w = 0; w < windows; w++) {
                if (glues[w] == 0) {
                    return w;
                }
            }
            return NONE;
        }

        /**
         * The WINDOWS (bits) by which it can hang whether this one OPENS: only one with a ruler
         * minds those beside it. The rest may be left out of a TURN.
         */
        int touching(int window) {
            int part = 1 << window;
            for (int step = 0; step < windows; step++) {
                int rulers = part & rulers();
                part |= (rulers << 1 | rulers >> 1) & all();
            }
            return part;
        }

        private int rulers() {
            int bits = 0;
            for (int w = 0; w < windows; w++) {
                bits |= kinds[w] == RULER ? 1 << w : 0;
            }
            return bits;
        }

        /** The WINDOWS (bits) whose OPENING more GLUE could change. */
        int gluable() {
            int bits = 0;
            for (int w = 0; w < windows; w++) {
                boolean minds = kinds[w] == CARD || kinds[w] == TIGHT || kinds[w] == RULER;
                bits |= minds && glues[w] < MOST_GLUE ? 1 << w : 0;
            }
            return bits;
        }

        void glueFast(int some) {
            for (int w = 0; w < windows; w++) {
                if ((some >> w & 1) != 0) {
                    glues[w] = MOST_GLUE;
                }
            }
        }
    }

    /** The STREETS ahead of the latest ACTS, in a ring. */
    private static final class Acts {
        private final Street[] ring = new Street[MOST_ACTS];
        private int next;
        private int kept;

        Acts() {
            for (int i = 0; i < MOST_ACTS; i++) {
                ring[i] = new Street();
            }
        }

        void keep(Street street) {
            ring[next].take(street);
            next = (next + 1) % MOST_ACTS;
            kept = Math.min(MOST_ACTS, kept + 1);
        }

        boolean takeBack(Street street) {
            if (kept == 0) {
                return false;
            }
            next = (next + MOST_ACTS - 1) % MOST_ACTS;
            kept--;
            street.take(ring[next]);
            return true;
        }

        void forget() {
            kept = 0;
        }
    }

    /** The first numbers that BODIES have left. */
    private static final class Trace {
        private final int[] bodies = new int[MOST_TRACE];
        private int length;

        void add(int body) {
            if (length < MOST_TRACE) {
                bodies[length] = body;
                length++;
            }
        }
    }

    /** What would come of the STREET now; all of it is tried on a second STREET. */
    private static final class Foretold {
        private final Street trial = new Street();
        private int mostSeen;

        Street behind(Street now, int d) {
            trial.take(now);
            turnTrial(d);
            return trial;
        }

        private void turnTrial(int n) {
            for (int t = 0; t < n; t++) {
                trial.turn();
            }
        }

        int turnsTillSeen(Street now, int window, int picture) {
            trial.take(now);
            for (int d = 0; d <= FAR; d++) {
                if ((trial.seen[window] >> picture & 1) != 0) {
                    return d;
                }
                trial.turn();
            }
            return NONE;
        }

        /** Leaves the trial as it is when the first GLUE is 0, or 60 TURNS on. */
        int turnsTillBare(Street now) {
            trial.take(now);
            for (int d = 0; d < FAR; d++) {
                if (trial.firstBare() != NONE) {
                    return d;
                }
                trial.turn();
            }
            return trial.firstBare() != NONE ? FAR : NONE;
        }

        /** The fewest WINDOWS (bits), the least of these, that keep one SHUT when glued fast. */
        int fewestGlued(Street now, int window, int n) {
            if (now.isOpen(window)) {
                return NONE;
            }
            int part = now.touching(window);
            int useful = part & now.gluable();
            int fewest = NONE;
            for (int some = 0; some <= useful; some++) {
                boolean isFewer = fewest == NONE || Integer.bitCount(some) < Integer.bitCount(fewest);
                if ((some & ~useful) == 0 && isFewer && staysShut(now, window, n, some, part)) {
                    fewest = some;
                }
            }
            return fewest;
        }

        private boolean staysShut(Street now, int window, int n, int glued, int part) {
            trial.take(now);
            trial.glueFast(glued);
            for (int t = 0; t < n; t++) {
                if (trial.wouldOpen(window, trial.date())) {
                    return false;
                }
                trial.turnUnseen(part);
            }
            return true;
        }

        /** 10 a and b of the first pair by whose change a WINDOW has SEEN most; leaves how many. */
        int bestTrade(Street now, int window, int n) {
            int best = NONE;
            mostSeen = NONE;
            for (int a = 0; a < now.windows; a++) {
                for (int b = a + 1; b < now.windows; b++) {
                    int pictures = seenByTrade(now, window, n, a, b);
                    if (pictures > mostSeen) {
                        mostSeen = pictures;
                        best = 10 * a + b;
                    }
                }
            }
            return best;
        }

        private int seenByTrade(Street now, int window, int n, int a, int b) {
            trial.take(now);
            trial.changeDays(a, b);
            turnTrial(n);
            return Integer.bitCount(trial.seen[window]);
        }

        /** KINDS (0), DATES (1), GLUES (2) of a WINDOW, or EVES (3), by which it is as told. */
        int fitting(Street now, int window, int[] told, int from, int n, int what) {
            int least = what == 3 ? LEAST_EVE : what == 2 ? 0 : 1;
            int most = what == 3 ? MOST_EVE : what == 2 ? MOST_GLUE : what == 1 ? MOST_DAY : RULER;
            int bits = 0;
            for (int v = least; v <= most; v++) {
                trial.take(now);
                suppose(window, what, v);
                if (isAsTold(window, told, from, n)) {
                    bits |= 1 << v;
                }
            }
            return bits;
        }

        private void suppose(int window, int what, int v) {
            if (what == 0) {
                trial.kinds[window] = v;
            } else if (what == 1) {
                trial.days[window] = v;
            } else if (what == 2) {
                trial.glues[window] = v;
            } else {
                trial.eve = v;
            }
        }

        private boolean isAsTold(int window, int[] told, int from, int n) {
            int part = trial.touching(window);
            for (int t = 0; t < n; t++) {
                trial.turnUnseen(part);
                if (told[from + t] != (trial.isOpen(window) ? 1 : 0)) {
                    return false;
                }
            }
            return true;
        }

        /**
         * Of 10 to the power of how many SHUT ones are touching, the ways in which a WINDOW is OPEN
         * behind n TURNS. WINDOWS that do not touch it would but lengthen the fraction.
         */
        long windyWays(Street now, int window, int n, int c, int part) {
            int loose = part & now.shutOnes();
            int all = Integer.bitCount(loose);
            long ways = 0;
            for (int lifted = 0; lifted <= loose; lifted++) {
                if ((lifted & ~loose) != 0) {
                    continue;
                }
                int some = Integer.bitCount(lifted);
                long weight = power(c, some) * power(TENTHS - c, all - some);
                if (weight != 0 && isOpenBehind(now, window, n, lifted, part)) {
                    ways += weight;
                }
            }
            return ways;
        }

        private boolean isOpenBehind(Street now, int window, int n, int lifted, int part) {
            trial.take(now);
            trial.opened |= lifted;
            for (int t = 0; t < n; t++) {
                trial.turnUnseen(part);
            }
            return trial.isOpen(window);
        }

        Street years(Street now, int n, int seed) {
            trial.take(now);
            long x = seed;
            for (int t = 0; t < n; t++) {
                x = x * 16807 % 2147483647;
                draw(x);
                trial.turn();
            }
            return trial;
        }

        private void draw(long x) {
            if (trial.windows == 0) {
                return;
            }
            int window = (int) (x % trial.windows);
            if (x % 3 == 0) {
                trial.opened ^= 1 << window;
            } else {
                trial.glues[window] = (int) (x % 10);
            }
        }
    }
}
