import java.io.IOException;
import java.util.function.ToLongBiFunction;

/** The promises, sentence by sentence: the ends of each number that a call takes, and what it refuses. */
public final class EdgesTests {
    private static final int NONE = -1000000, BAD = -1000001, STATE = -1000002, FULL = -1000003;
    private static final int NULL = -1000011, PLACE = -1000012, KIND = -1000013, SIZE = -1000014, STORE = -1000015;
    private static final int LOW = Integer.MIN_VALUE, HIGH = Integer.MAX_VALUE;
    private static final String FIVE = Play.FIVE;
    private static final String TEN = Play.ten("e24,3;", "f24,9,9;");

    private static final Check CHECK = new Check("EdgesTests");
    private static Sentences doc;

    public static void main(String[] args) throws IOException {
        doc = new Sentences(CHECK);
        newObject();
        row();
        set();
        copy();
        drop();
        feed();
        street();
        fault();
        times();
        open();
        press();
        glue();
        trade();
        sight();
        undo();
        window();
        opens();
        ahead();
        spots();
        off();
        shut();
        trades();
        along();
        alike();
        guess();
        fits();
        wind();
        drawn();
        image();
        restore();
        kind();
        as();
        ask();
        trace();
        count();
        status();
        for (int n = 1; n <= 36; n++) {
            doc.nothingLeft("Promise " + n, "`[^`]+`:");
        }
        CHECK.end();
    }

    /** A call by one of its numbers, the others being as told. */
    private interface Call {
        long by(int v);
    }

    private static void promise(int n) {
        doc.open("Promise " + n);
    }

    private static void says(String quote) {
        doc.says(quote);
    }

    private static void due(String call, long got, long want) {
        doc.due(call, got, want);
    }

    /** BAD are the numbers outside of a range, and they alone. */
    private static void badBeyond(String call, int least, int most, Call made) {
        badBelow(call, least, made);
        badAbove(call, most, made);
    }

    private static void badBelow(String call, int least, Call made) {
        due(call + " of the least, BAD", made.by(least) == BAD ? 1 : 0, 0);
        due(call + " below the least", made.by(least - 1), BAD);
        due(call + " of the lowest", made.by(LOW), BAD);
    }

    private static void badAbove(String call, int most, Call made) {
        due(call + " of the most, BAD", made.by(most) == BAD ? 1 : 0, 0);
        due(call + " above the most", made.by(most + 1), BAD);
        due(call + " of the highest", made.by(HIGH), BAD);
    }

    /** BAD are the numbers of WINDOWS that are not there: of two, of ten, without a STREET. */
    private static void badWindows(String call, ToLongBiFunction<AdventStreets, Integer> made) {
        badBeyond(call + ", two", 0, 1, w -> made.applyAsLong(Play.street("e9,1;f2,1,1;t3,1,1;"), w));
        badBeyond(call + ", ten", 0, 9, w -> made.applyAsLong(Play.street(TEN), w));
        due(call + ", no STREET", made.applyAsLong(new AdventStreets(), 0), BAD);
        due(call + ", no STREET", made.applyAsLong(new AdventStreets(), -1), BAD);
    }

    private static void newObject() {
        promise(1);
        says("No STREET.");
        AdventStreets x = new AdventStreets();
        due("times(1)", x.times(1), STATE);
        due("image(0)", x.image(0), STATE);
        due("kind(0)", x.kind(0), BAD);
        for (int what = 0; what <= 8; what++) {
            due("count(" + what + ")", x.count(what), 0);
        }
        due("status()", x.status(), 0);
        due("fault()", x.fault(), 0);
        due("trace(0)", x.trace(0), NONE);
    }

    // ---- rows

    private static void row() {
        promise(2);
        says("A ROW of a LANE with n ITEMS, in place of what is there: n.");
        AdventStreets x = Play.street(TEN);
        due("the longest", x.row(3, 2, 40), 40);
        for (int i = 0; i < 40; i++) {
            due("set(3," + i + ",1)", x.set(3, i, 1), 1);
        }
        due("ITEMS of 1", x.fits(0, 3, 28, 12, 2), 0);
        due("in its place", x.row(3, 0, 40), 40);
        for (int from = 0; from <= 28; from += 7) {
            due("ITEMS are 0 again", x.fits(0, 3, from, 12, 2), 1023);
        }
        due("of another LANE", x.set(3, 0, 128), -128);
        due("a shorter one", x.row(3, 1, 1), 1);
        due("it has one ITEM", x.set(3, 1, 0), PLACE);
        due("of another LANE", x.set(3, 0, 128), 128);
        due("an empty one", x.row(3, 1, 0), 0);
        due("it has none", x.drop(3), 0);
        says("BAD: ROW, LANE, n above 40; SIZE.");
        badBeyond("ROW", 0, 7, row -> x.row(row, 0, 1));
        badBeyond("LANE", 0, 2, lane -> x.row(0, lane, 1));
        badAbove("n", 40, n -> x.row(0, 0, n));
        due("n -1", x.row(0, 0, -1), SIZE);
        due("n of the lowest", x.row(0, 0, LOW), SIZE);
        due("the ROW stays", x.drop(0), 40);
    }

    private static void set() {
        promise(3);
        says("ITEM i becomes v, its lowest bits, as many as the LANE has (read with their sign): what it is then.");
        AdventStreets x = new AdventStreets();
        x.row(0, 0, 2);
        x.row(1, 1, 2);
        x.row(2, 2, 2);
        int[] given = {127, 128, 255, 256, -128, -129, 32767, 32768, 65535, 65536, -32768, -32769, HIGH, LOW, 0, -1};
        int[] bytes = {127, -128, -1, 0, -128, 127, -1, 0, -1, 0, 0, -1, -1, 0, 0, -1};
        int[] shorts = {127, 128, 255, 256, -128, -129, 32767, -32768, -1, 0, -32768, 32767, -1, 0, 0, -1};
        for (int k = 0; k < given.length; k++) {
            due("byte " + given[k], x.set(0, 1, given[k]), bytes[k]);
            due("short " + given[k], x.set(1, 1, given[k]), shorts[k]);
            due("int " + given[k], x.set(2, 1, given[k]), given[k]);
        }
        says("BAD: ROW; NULL; PLACE.");
        badBeyond("ROW", 0, 7, row -> x.set(row, 0, 1));
        due("NULL", x.set(3, 0, 1), NULL);
        due("NULL", x.set(7, 2, 1), NULL);
        for (int i : new int[] {-1, 2, LOW, HIGH}) {
            due("PLACE " + i, x.set(0, i, 1), PLACE);
        }
        due("the first", x.set(0, 0, 1), 1);
        due("the last", x.set(0, 1, 1), 1);
    }

    /** TEN's WINDOWS are OPENED by hand: a 1 fits all GLUES, what is not 1 none. */
    private static int ones(AdventStreets x, int row, int n) {
        int ones = 0;
        for (int i = 0; i < n; i++) {
            ones |= x.fits(0, row, i, 1, 2) == 1023 ? 1 << i : 0;
        }
        return ones;
    }

    private static void copy() {
        promise(4);
        says("n ITEMS of a from i on come to b from j on, as they were ahead: n.");
        AdventStreets x = Play.street(TEN);
        x.open(0);
        Play.tell(x, 0, 1, 0, 1, 1, 0);
        due("up by one", x.copy(0, 0, 0, 1, 4), 4);
        due("ITEMS", ones(x, 0, 5), 0b11011);
        due("down by one", x.copy(0, 1, 0, 0, 4), 4);
        due("ITEMS", ones(x, 0, 5), 0b11101);
        due("onto itself", x.copy(0, 0, 0, 0, 5), 5);
        due("ITEMS", ones(x, 0, 5), 0b11101);
        x.row(1, 0, 40);
        due("to the end", x.copy(0, 0, 1, 35, 5), 5);
        due("the last ITEMS", x.fits(0, 1, 36, 1, 2) * 10 + x.fits(0, 1, 39, 1, 2), 1023);
        due("all 40", x.copy(1, 0, 1, 0, 40), 40);
        due("none", x.copy(0, 5, 1, 40, 0), 0);
        due("none", x.copy(0, 0, 1, 0, 0), 0);
        due("ITEMS", ones(x, 1, 30), 0);
        says("BAD: ROWS; NULL; STORE; PLACE (i, j, n below 0, or beyond an end).");
        badBeyond("a", 0, 7, a -> x.copy(a, 0, 0, 0, 1));
        badBeyond("b", 0, 7, b -> x.copy(0, 0, b, 0, 1));
        due("NULL, a", x.copy(2, 0, 0, 0, 1), NULL);
        due("NULL, b", x.copy(0, 0, 2, 0, 1), NULL);
        x.row(2, 1, 5);
        x.row(3, 2, 5);
        due("STORE, bytes to shorts", x.copy(0, 0, 2, 0, 1), STORE);
        due("STORE, ints to bytes", x.copy(3, 0, 0, 0, 1), STORE);
        due("STORE of none", x.copy(3, 0, 2, 0, 0), STORE);
        int[][] places = {{-1, 0, 1}, {0, -1, 1}, {0, 0, -1}, {5, 0, 1}, {0, 40, 1}, {0, 0, 6}, {1, 0, 5}, {0, 36, 5},
            {6, 0, 0}, {0, 41, 0}, {LOW, 0, 1}, {0, LOW, 1}, {0, 0, LOW}, {HIGH, 0, 1}, {0, HIGH, 1}, {0, 0, HIGH},
            {HIGH, HIGH, HIGH}, {1, 1, HIGH}};
        for (int[] p : places) {
            due("PLACE " + p[0] + "," + p[1] + "," + p[2], x.copy(0, p[0], 1, p[1], p[2]), PLACE);
        }
        due("the ROW stays", ones(x, 0, 5), 0b11101);
        due("the ROW stays", ones(x, 1, 35), 0);
    }

    private static void drop() {
        promise(5);
        says("A ROW is missing from now on: how many ITEMS it had.");
        AdventStreets x = new AdventStreets();
        x.row(0, 0, 0);
        x.row(7, 2, 40);
        due("the longest", x.drop(7), 40);
        due("it is missing", x.set(7, 0, 0), NULL);
        due("ROWS", x.count(0), 1);
        due("an empty one", x.drop(0), 0);
        due("ROWS", x.count(0), 0);
        says("BAD; NULL.");
        badBeyond("ROW", 0, 7, x::drop);
        due("NULL", x.drop(7), NULL);
        due("NULL", x.drop(1), NULL);
    }

    // ---- streets, acts

    private static void feed() {
        promise(6);
        says("A byte (0 to 255) comes behind the tape: how many it has.");
        AdventStreets x = new AdventStreets();
        due("the first", x.feed(255), 1);
        due("the second", x.feed(0), 2);
        says("BAD; FULL.");
        badBeyond("byte", 0, 255, x::feed);
        due("four of these came", x.count(8), 4);
        for (int bytes = 5; bytes <= 130; bytes++) {
            due("byte " + bytes, x.feed(';'), bytes);
        }
        due("byte 131", x.feed(';'), FULL);
        due("byte 131, BAD", x.feed(-1), BAD);
        due("bytes", x.count(8), 130);
    }

    private static void street() {
        promise(7);
        says("The tape, empty then, is read: how many WINDOWS there are.");
        AdventStreets x = new AdventStreets();
        due("the fewest", Play.read(x, "e2,0;f1,0,0;f1,0,0;"), 2);
        due("bytes", x.count(8), 0);
        due("the most", Play.read(x, TEN), 10);
        due("bytes", x.count(8), 0);
        says("-1000100 less the place of a FAULT: all stays, but the tape is empty then, and fault() tells this one.");
        x.times(2);
        x.open(3);
        x.row(0, 0, 3);
        x.ask(0, 0);
        x.drop(1);
        due("the first place", x.street(), -1000100);
        due("a place between", Play.read(x, "e9,4;"), -1000103);
        due("fault()", x.fault(), 2);
        due("the last place", Play.read(x, Play.ten("e24,03;", "f01,09,09;") + "r"), -1000207);
        due("fault()", x.fault(), 3);
        due("bytes", x.count(8), 0);
        due("WINDOWS, TIME", x.count(1) * 10 + x.count(2), 102);
        due("EVE, SIGHT", x.count(4) * 10 + x.count(5), 243);
        due("OPEN, ACTS", x.count(6) * 10 + x.count(7), 83);
        due("ROWS", x.count(0), 1);
        due("THE TRACE", x.trace(0), 11);
        due("status()", x.status(), 1);
        due("undo()", x.undo(), 2);
    }

    private static void fault() {
        promise(8);
        says("The number of the latest FAULT; 0 before one.");
        AdventStreets x = new AdventStreets();
        due("before one", x.fault(), 0);
        Play.read(x, TEN);
        due("still before one", x.fault(), 0);
        Play.read(x, TEN + "f");
        due("3", x.fault(), 3);
        Play.read(x, "e1");
        due("2", x.fault(), 2);
        Play.read(x, "");
        due("1", x.fault(), 1);
        Play.read(x, TEN);
        due("the latest still", x.fault(), 1);
    }

    private static void times() {
        promise(9);
        says("n TURNS (1 to 24), an ACT each: WINDOWS (bits) that are OPEN then.");
        AdventStreets x = Play.street("e23,0;f1,1,9;f24,1,9;");
        due("one", x.times(1), 1);
        due("ACTS", x.count(7), 1);
        due("22", x.times(22), 0);
        due("ACTS", x.count(7), 23);
        due("24", x.times(24), 1);
        due("ACTS", x.count(7), 24);
        due("TIME", x.count(2), 47);
        says("BAD; STATE: no STREET (ahead of BAD); FULL: beyond TIME 9999.");
        badBeyond("n", 1, 24, n -> Play.street(FIVE).times(n));
        for (int n : new int[] {1, 0, 25, LOW, HIGH}) {
            due("no STREET, n " + n, new AdventStreets().times(n), STATE);
        }
        AdventStreets late = Play.turned("e23,0;f1,1,9;f24,1,9;", 9976);
        due("24 beyond", late.times(24), FULL);
        due("TIME", late.count(2), 9976);
        due("23 to the end", late.times(23), 1);
        due("TIME", late.count(2), 9999);
        due("one beyond", late.times(1), FULL);
        due("BAD ahead of FULL", late.times(25), BAD);
        due("one back", late.undo(), 23);
        due("two beyond", late.times(2), FULL);
        due("one again", late.times(1), 1);
        due("other ACTS come yet", late.open(1), 1);
        due("what is foretold, too", late.opens(5), 3);
        due("what is foretold, too", late.opens(6), 0);
    }

    private static void open() {
        promise(10);
        says("A WINDOW is OPENED by hand: the PICTURE (nobody looks).");
        AdventStreets x = Play.street("e9,1;f9,0,9;f9,9,9;t9,5,9;");
        due("PICTURE 9", x.open(1), 9);
        due("PICTURE 0", x.open(0), 0);
        due("held by GLUE 9", x.open(2), 5);
        due("OPEN", x.count(6), 7);
        due("nobody looks", x.window(0, 4) + x.window(1, 4), 0);
        due("GLUE stays", x.window(0, 2), 9);
        due("TIME stays", x.count(2), 0);
        says("BAD; STATE: it is OPEN.");
        badWindows("WINDOW", AdventStreets::open);
        due("by hand", x.open(0), STATE);
        x = Play.turned(FIVE, 1);
        due("in a TURN", x.open(3), STATE);
        due("no ACT", x.count(7), 1);
        x.times(4);
        due("pressed to on the EVE", x.open(3), 7);
    }

    private static void press() {
        promise(11);
        says("A WINDOW is pressed to: GLUE.");
        AdventStreets x = Play.street("e9,1;f9,0,9;f9,9,0;");
        x.open(0);
        x.open(1);
        due("GLUE 9", x.press(0), 9);
        due("OPEN", x.count(6), 2);
        due("GLUE 0", x.press(1), 0);
        due("OPEN", x.count(6), 0);
        due("GLUE stays", x.window(0, 2), 9);
        says("BAD; STATE: it is SHUT.");
        badWindows("WINDOW", AdventStreets::press);
        due("by hand", x.press(0), STATE);
        due("ACTS", x.count(7), 4);
        x = Play.turned(FIVE, 5);
        due("on the EVE", x.press(0), STATE);
    }

    private static void glue() {
        promise(12);
        says("n of GLUE (1 to 9) is put on: how much there is then.");
        AdventStreets x = Play.street("e9,1;f9,0,0;f9,9,8;t1,1,9;");
        due("0 and 1", x.glue(0, 1), 1);
        due("1 and 8", x.glue(0, 8), 9);
        due("8 and 1", x.glue(1, 1), 9);
        due("9 and 1", x.glue(1, 1), 9);
        due("9 and 9", x.glue(2, 9), 9);
        x.open(0);
        due("on one that is OPEN", x.glue(0, 9), 9);
        x = Play.street("e9,1;f9,0,0;f9,9,8;");
        due("0 and 9", x.glue(0, 9), 9);
        due("GLUE of the other", x.window(1, 2), 8);
        says("BAD.");
        badWindows("WINDOW", (each, w) -> each.glue(w, 1));
        badBeyond("n", 1, 9, n -> Play.street(FIVE).glue(0, n));
    }

    private static void trade() {
        promise(13);
        says("DAYS of two are changed: that of the one then.");
        AdventStreets x = Play.street("e9,1;f1,0,0;f24,9,8;f7,1,1;");
        due("the one", x.trade(0, 1), 24);
        due("DAYS", x.window(0, 0) * 100 + x.window(1, 0), 2401);
        due("the other first", x.trade(2, 1), 1);
        due("DAYS", x.window(2, 0) * 100 + x.window(1, 0), 107);
        due("PICTURE and GLUE stay", x.window(1, 1) * 10 + x.window(1, 2), 98);
        says("BAD (alike, too).");
        badWindows("one", (each, w) -> each.trade(w, w == 0 ? 1 : 0));
        badWindows("other", (each, w) -> each.trade(w == 0 ? 1 : 0, w));
        due("alike", x.trade(0, 0), BAD);
        due("alike", x.trade(2, 2), BAD);
        due("no ACT", x.count(7), 2);
    }

    private static void sight() {
        promise(14);
        says("SIGHT is v (0 to 3): what it was.");
        AdventStreets x = Play.street(TEN);
        due("to 0", x.sight(0), 3);
        due("as it was", x.sight(0), 0);
        due("to 3", x.sight(3), 0);
        due("SIGHT", x.count(5), 3);
        says("BAD; STATE: no STREET (ahead of BAD).");
        badBeyond("v", 0, 3, x::sight);
        for (int v : new int[] {0, -1, 4, LOW, HIGH}) {
            due("no STREET, v " + v, new AdventStreets().sight(v), STATE);
        }
    }

    private static void undo() {
        promise(15);
        says("The latest ACT is undone: how many can be undone yet.");
        AdventStreets x = Play.turned(FIVE, 23);
        due("of 23", x.undo(), 22);
        x.times(2);
        due("of 24", x.undo(), 23);
        due("TIME", x.count(2), 23);
        for (int yet = 22; yet >= 0; yet--) {
            due("undo()", x.undo(), yet);
        }
        due("TIME", x.count(2), 0);
        says("STATE: none.");
        due("none", x.undo(), STATE);
        due("no STREET", new AdventStreets().undo(), STATE);
        due("none behind a new STREET", Play.read(x, FIVE) + x.undo(), 5 + STATE);
        x.times(1);
        Play.read(x, "e");
        due("a FAULT leaves it", x.undo(), 0);
        x.times(1);
        x.image(0);
        due("an IMAGE leaves it", x.undo(), 0);
        x.times(1);
        x.restore(0);
        due("none behind an IMAGE", x.undo(), STATE);
        x.glue(0, 1);
        x.press(0);
        due("what is refused is none", x.undo(), 0);
        due("none again", x.undo(), STATE);
    }

    private static void window() {
        promise(16);
        says("Of a WINDOW: 0 DAY, 1 PICTURE, 2 GLUE, 3 whether it is OPEN (1, 0), 4 what it has SEEN (bits),"
                + " 5 whether it would OPEN in this TURN, were it SHUT (1, 0).");
        AdventStreets x = Play.street("e24,1;f24,9,0;d1,0,9;c24,1,0;t1,1,5;r1,2,4;r24,3,9;");
        int[] would = {0, 1, 1, 0, 1, 0};
        for (int w = 0; w < 6; w++) {
            due("SHUT " + w, x.window(w, 3), 0);
            due("would OPEN " + w, x.window(w, 5), would[w]);
        }
        due("it OPENS, who would", x.times(1), 22);
        int[] then = {0, 1, 1, 0, 0, 1};
        for (int w = 0; w < 6; w++) {
            due("OPEN " + w, x.window(w, 3), 22 >> w & 1);
            due("were it SHUT " + w, x.window(w, 5), then[w]);
        }
        due("SEEN", x.window(0, 4), 1);
        due("SEEN", x.window(3, 4), 6);
        due("DAY, PICTURE, GLUE", x.window(0, 0) * 100 + x.window(0, 1) * 10 + x.window(0, 2), 2490);
        x = Play.turned("e2,1;f2,9,0;d2,0,9;", 1);
        due("on the EVE it would", x.window(0, 5) * 10 + x.window(1, 5), 11);
        x.times(1);
        due("a double one would not on 1", x.window(1, 5), 0);
        says("BAD.");
        badWindows("WINDOW", (each, w) -> each.window(w, 0));
        badBeyond("what", 0, 5, what -> Play.street(FIVE).window(0, what));
    }

    // ---- foretold

    private static void opens() {
        promise(17);
        says("WINDOWS (bits) that are OPEN.");
        AdventStreets x = Play.street(Play.ten("e24,0;", "f12,0,9;"));
        due("behind 11", x.opens(11), 0);
        due("behind 12", x.opens(12), 1023);
        due("behind 23", x.opens(23), 1023);
        due("behind 24", x.opens(24), 0);
        due("behind 60", x.opens(60), 1023);
        says("BAD; STATE: no STREET (ahead of BAD).");
        badBeyond("d", 0, 60, x::opens);
        for (int d : new int[] {0, -1, 61, LOW, HIGH}) {
            due("no STREET, d " + d, new AdventStreets().opens(d), STATE);
        }
    }

    private static void ahead() {
        promise(18);
        says("GLUE (what = 0), what it has SEEN (1).");
        AdventStreets x = Play.street("e12,1;f12,5,9;f12,9,1;");
        due("GLUE behind 0", x.ahead(0, 0, 0), 9);
        due("GLUE behind 11", x.ahead(0, 11, 0), 9);
        due("GLUE behind 12", x.ahead(0, 12, 0), 8);
        due("GLUE behind 60", x.ahead(0, 60, 0), 4);
        due("GLUE is 0 at least", x.ahead(1, 60, 0), 0);
        due("SEEN behind 11", x.ahead(0, 11, 1), 0);
        due("SEEN behind 12", x.ahead(0, 12, 1), 512);
        due("SEEN behind 60", x.ahead(1, 60, 1), 32);
        says("BAD.");
        badWindows("WINDOW", (each, w) -> each.ahead(w, 0, 0));
        badBeyond("d", 0, 60, d -> x.ahead(0, d, 0));
        badBeyond("what", 0, 1, what -> x.ahead(0, 0, what));
    }

    private static void spots() {
        promise(19);
        says("SPOTS; NONE.");
        AdventStreets x = Play.street("e24,1;f24,9,9;f1,0,9;f1,5,9;");
        due("behind 1", x.spots(0, 0), 1);
        due("on the EVE", x.spots(1, 9), 24);
        due("too far", x.spots(2, 9), NONE);
        due("none has it", x.spots(1, 8), NONE);
        due("its own", x.spots(0, 9), NONE);
        x.sight(2);
        due("near enough", x.spots(2, 9), 24);
        x.sight(0);
        due("no SIGHT", x.spots(1, 9), NONE);
        says("BAD.");
        badWindows("WINDOW", (each, w) -> each.spots(w, 0));
        badBeyond("PICTURE", 0, 9, picture -> x.spots(0, picture));
    }

    private static void off() {
        promise(20);
        says("OFF: which (what = 0), behind how many TURNS (1); NONE.");
        AdventStreets x = Play.street("e24,1;f24,9,9;f1,0,5;f1,5,4;");
        // By DAY and EVE the last one's GLUE is 2 behind 24, 0 behind 48.
        due("which", x.off(0), 2);
        due("when", x.off(1), 48);
        x.glue(2, 1);
        due("which of two", x.off(0), 1);
        due("when of two", x.off(1), 49);
        x.glue(1, 9);
        x.glue(2, 9);
        due("which, never", x.off(0), NONE);
        due("when, never", x.off(1), NONE);
        says("BAD; STATE: no STREET (ahead of BAD).");
        badBeyond("what", 0, 1, what -> Play.street(FIVE).off(what));
        for (int what : new int[] {0, 1, -1, 2, LOW, HIGH}) {
            due("no STREET, what " + what, new AdventStreets().off(what), STATE);
        }
    }

    private static void shut() {
        promise(21);
        says("SHUT: how many (what = 0), which (1); NONE.");
        AdventStreets x = Play.street("e24,1;t1,9,4;r2,0,4;t1,5,4;r2,0,4;t1,5,4;");
        due("none yet, how many", x.shut(1, 1, 0), 0);
        due("none yet, which", x.shut(1, 1, 1), 0);
        due("three, how many", x.shut(1, 2, 0), 3);
        due("three, which", x.shut(1, 2, 1), 7);
        due("three, how many", x.shut(3, 24, 0), 3);
        due("three, which", x.shut(3, 24, 1), 28);
        x.open(0);
        due("never, how many", x.shut(1, 1, 0), NONE);
        due("never, which", x.shut(1, 1, 1), NONE);
        due("OPEN now", x.shut(0, 1, 1), NONE);
        says("BAD.");
        badWindows("WINDOW", (each, w) -> each.shut(w, 1, 0));
        badBeyond("n", 1, 24, n -> Play.street(FIVE).shut(0, n, 0));
        badBeyond("what", 0, 1, what -> Play.street(FIVE).shut(0, 1, what));
    }

    private static void trades() {
        promise(22);
        says("TRADE: the pair (what = 0), how many (1).");
        AdventStreets x = Play.street("e24,3;f24,0,9;f24,1,9;f24,2,9;f24,3,9;f1,4,9;f1,5,9;f1,6,9;f1,7,9;");
        due("the pair", x.trades(0, 1, 0), 14);
        due("how many", x.trades(0, 1, 1), 1);
        due("another pair", x.trades(7, 1, 0), 1);
        due("how many", x.trades(7, 1, 1), 3);
        due("another pair", x.trades(3, 1, 0), 7);
        due("how many", x.trades(3, 1, 1), 4);
        says("BAD.");
        badWindows("WINDOW", (each, w) -> each.trades(w, 1, 0));
        badBeyond("n", 1, 24, n -> x.trades(0, n, 0));
        badBeyond("what", 0, 1, what -> x.trades(0, 1, what));
    }

    private static void along() {
        promise(23);
        says("ALONG: STEPS (what = 0), how many (1).");
        AdventStreets x = Play.street("e24,1;f24,0,9;f24,1,9;f24,2,9;f24,3,9;");
        due("STEPS", x.along(0, 0), 3);
        due("how many", x.along(0, 1), 4);
        x.open(1);
        due("STEPS", x.along(0, 0), 0);
        due("how many", x.along(0, 1), 1);
        says("BAD.");
        badWindows("WINDOW", (each, w) -> each.along(w, 0));
        badBeyond("what", 0, 1, what -> x.along(0, what));
    }

    private static void alike() {
        promise(24);
        says("ALIKE: how many (what = 0), the first (1; NONE).");
        AdventStreets x = Play.street("e24,1;f24,0,9;f24,1,9;f24,1,9;");
        due("how many", x.alike(0), 1);
        due("the first", x.alike(1), 12);
        Play.read(x, "e24,1;f24,0,9;f24,1,9;");
        due("how many of none", x.alike(0), 0);
        due("the first of none", x.alike(1), NONE);
        says("BAD; STATE: no STREET (ahead of BAD).");
        badBeyond("what", 0, 1, x::alike);
        for (int what : new int[] {0, 1, -1, 2, LOW, HIGH}) {
            due("no STREET, what " + what, new AdventStreets().alike(what), STATE);
        }
    }

    private static void guess() {
        promise(25);
        says("GUESS.");
        AdventStreets x = Play.street("e24,1;f1,0,9;f24,9,9;f24,9,9;");
        due("all", x.guess(1), 513);
        x.times(1);
        due("its own yet", x.guess(1), 512);
        due("it has SEEN none", x.guess(0), 513);
        x.open(1);
        x.times(1);
        due("by the other one alike", x.guess(2), 1);
        says("BAD.");
        badWindows("WINDOW", AdventStreets::guess);
    }

    private static void fits() {
        promise(26);
        says("SORTS (what = 0), DATES (1), GLUES (2), EVES (3) by whether a WINDOW is OPEN, n ITEMS of a ROW from i on.");
        AdventStreets x = Play.street("e3,1;t2,0,4;f24,9,9;");
        Play.tell(x, 7, 9, 0, 1, 0, 9);
        due("SORTS", x.fits(0, 7, 1, 3, 0), 62);
        due("DATES", x.fits(0, 7, 1, 3, 1), 4);
        due("GLUES", x.fits(0, 7, 1, 3, 2), 31);
        due("EVES", x.fits(0, 7, 1, 3, 3), 8);
        due("from another on", x.fits(0, 7, 0, 3, 0), 0);
        due("TIME stays", x.count(2), 0);
        due("KIND, DAY, GLUE, EVE stay", x.kind(0) * 1000 + x.window(0, 0) * 100 + x.window(0, 2) * 10 + x.count(4), 4243);
        says("BAD: WINDOW, ROW, n, what; NULL; PLACE.");
        badWindows("WINDOW", (each, w) -> {
            each.row(0, 0, 1);
            return each.fits(w, 0, 0, 1, 0);
        });
        x.row(0, 2, 12);
        badBeyond("ROW", 0, 7, row -> x.fits(0, row, 0, 1, 0));
        badBeyond("n", 1, 12, n -> x.fits(0, 0, 0, n, 0));
        badBeyond("what", 0, 3, what -> x.fits(0, 0, 0, 1, what));
        due("NULL", x.fits(0, 1, 0, 1, 0), NULL);
        due("the last ITEM", x.fits(0, 0, 11, 1, 1), (1 << 25) - 4);
        int[][] places = {{-1, 1}, {12, 1}, {1, 12}, {11, 2}, {LOW, 1}, {HIGH, 1}, {HIGH, 12}};
        for (int[] p : places) {
            due("PLACE " + p[0] + ", n " + p[1], x.fits(0, 0, p[0], p[1], 0), PLACE);
        }
        x.row(0, 2, 0);
        due("PLACE of an empty one", x.fits(0, 0, 0, 1, 0), PLACE);
    }

    private static void wind() {
        promise(27);
        says("WIND (c 0 to 10): above (what = 0), below (1).");
        AdventStreets x = Play.street("e24,1;f24,0,9;f24,9,9;");
        due("none, above", x.wind(0, 0, 0, 0), 0);
        due("none, below", x.wind(0, 0, 0, 1), 1);
        due("1 of 10, above", x.wind(0, 0, 1, 0), 1);
        due("1 of 10, below", x.wind(0, 0, 1, 1), 10);
        due("6 of 10, above", x.wind(0, 23, 6, 0), 3);
        due("6 of 10, below", x.wind(0, 23, 6, 1), 5);
        due("all, above", x.wind(0, 0, 10, 0), 1);
        due("all, below", x.wind(0, 0, 10, 1), 1);
        due("the EVE, above", x.wind(0, 24, 10, 0), 0);
        due("the EVE, below", x.wind(0, 24, 10, 1), 1);
        due("nothing changes", x.count(6), 0);
        says("BAD.");
        badWindows("WINDOW", (each, w) -> each.wind(w, 0, 1, 0));
        badBeyond("n", 0, 24, n -> x.wind(0, n, 1, 0));
        badBeyond("c", 0, 10, c -> x.wind(0, 0, c, 0));
        badBeyond("what", 0, 1, what -> x.wind(0, 0, 1, what));
    }

    private static void drawn() {
        promise(28);
        says("YEARS by a SEED (1 to 999999): OPEN (what = 0), PICTURES (1).");
        AdventStreets x = Play.street(Play.ten("e24,1;", "f1,9,9;"));
        due("OPEN", x.drawn(1, 1, 0), 10);
        due("PICTURES", x.drawn(1, 1, 1), 1);
        due("OPEN, none yet", x.drawn(0, 999999, 0), 0);
        due("PICTURES, none yet", x.drawn(0, 999999, 1), 0);
        // By SEED 3, X is 50421: 0 by 3, 1 by 10; the second one is OPENED and stays.
        due("OPEN by 3", x.drawn(1, 3, 0), 10);
        x.times(1);
        due("pressed to by 3", x.drawn(1, 3, 0), 9);
        says("BAD; STATE: no STREET (ahead of BAD).");
        badBeyond("n", 0, 60, n -> x.drawn(n, 1, 0));
        badBeyond("seed", 1, 999999, seed -> x.drawn(1, seed, 0));
        badBeyond("what", 0, 1, what -> x.drawn(1, 1, what));
        due("no STREET", new AdventStreets().drawn(1, 1, 0), STATE);
        due("no STREET, n 61", new AdventStreets().drawn(61, 1, 0), STATE);
        due("no STREET, seed 0", new AdventStreets().drawn(1, 0, 0), STATE);
        due("no STREET, what 2", new AdventStreets().drawn(1, 1, 2), STATE);
    }

    private static void image() {
        promise(29);
        says("An IMAGE (0, 1) is kept of the STREET: 1.");
        AdventStreets x = Play.turned(FIVE, 1);
        due("the first", x.image(0), 1);
        x.times(1);
        due("the last", x.image(1), 1);
        x.times(1);
        due("in place of the one before", x.image(0), 1);
        due("ACTS stay", x.count(7), 3);
        x.restore(0);
        due("TIME", x.count(2), 3);
        x.restore(1);
        due("TIME", x.count(2), 2);
        says("BAD; STATE: no STREET.");
        badBeyond("k", 0, 1, x::image);
        badBeyond("k without a STREET", 0, 1, k -> new AdventStreets().image(k));
        due("no STREET", new AdventStreets().image(0), STATE);
        due("no STREET", new AdventStreets().image(1), STATE);
    }

    private static void restore() {
        promise(30);
        says("The STREET is as an IMAGE kept it (no ACT can be undone then): 1.");
        AdventStreets x = Play.turned(FIVE, 2);
        x.image(1);
        x.undo();
        x.glue(0, 9);
        x.trade(0, 3);
        x.sight(3);
        due("back", x.restore(1), 1);
        due("TIME, OPEN", x.count(2) * 100 + x.count(6), 227);
        due("DAY, GLUE", x.window(0, 0) * 10 + x.window(0, 2), 23);
        due("SIGHT, SEEN", x.count(5) * 1000 + x.window(2, 4), 1130);
        due("ACTS", x.count(7), 0);
        due("undo()", x.undo(), STATE);
        x.times(3);
        Play.read(x, TEN);
        due("back from another STREET", x.restore(1), 1);
        due("WINDOWS, TIME", x.count(1) * 10 + x.count(2), 52);
        due("and again", x.restore(1), 1);
        says("BAD; STATE: none was kept.");
        due("the other", x.restore(0), STATE);
        due("WINDOWS stay", x.count(1), 5);
        badBeyond("k", 0, 1, x::restore);
        badBeyond("k without a STREET", 0, 1, k -> new AdventStreets().restore(k));
        due("no STREET", new AdventStreets().restore(0), STATE);
        due("no STREET", new AdventStreets().restore(1), STATE);
    }

    // ---- asked

    private static void kind() {
        promise(31);
        says("The KIND of a WINDOW, as told (1 to 5).");
        AdventStreets x = Play.street("e9,1;f1,1,1;d1,1,1;c1,1,1;t1,1,1;r1,1,1;r1,1,1;t1,1,1;c1,1,1;d1,1,1;f1,1,1;");
        for (int w = 0; w < 10; w++) {
            due("kind(" + w + ")", x.kind(w), w < 5 ? w + 1 : 10 - w);
        }
        says("BAD.");
        badWindows("WINDOW", AdventStreets::kind);
    }

    private static void as() {
        promise(32);
        says("A WINDOW is taken as one of a KIND (0 .. 5): the WINDOW's number.");
        AdventStreets x = Play.street("e9,1;f1,1,1;d1,1,1;c1,1,1;t1,1,1;r1,1,1;r1,1,1;t1,1,1;c1,1,1;d1,1,1;f1,1,1;");
        for (int w = 0; w < 10; w++) {
            due("as(" + w + ",0)", x.as(w, 0), w);
            due("as(" + w + "," + x.kind(w) + ")", x.as(w, x.kind(w)), w);
        }
        due("a double one is a flap", x.as(8, 1), 8);
        due("a card is a flap", x.as(7, 1), 7);
        due("a ruler is a tight one", x.as(5, 4), 5);
        says("BAD; KIND: it is no such one.");
        badWindows("WINDOW", (each, w) -> each.as(w, 0));
        badBeyond("KIND", 0, 5, kind -> x.as(0, kind));
        due("a flap is no double one", x.as(9, 2), KIND);
        due("a tight one is no ruler", x.as(6, 5), KIND);
        due("a card is no double one", x.as(7, 2), KIND);
        due("a ruler is no flap", x.as(5, 1), KIND);
        due("status()", x.status(), 3);
        due("nothing changes", x.kind(5), 5);
    }

    private static void ask() {
        promise(33);
        says("An ASK (0, 1) of a WINDOW.");
        AdventStreets x = Play.street(FIVE);
        due("SIZE", x.ask(3, 0), -93);
        due("MARK", x.ask(3, 1), 96);
        says("BAD (THE TRACE stays then). THE TRACE is empty ahead of it.");
        badWindows("WINDOW", (each, w) -> each.ask(w, 0));
        badBeyond("what", 0, 1, what -> x.ask(3, what));
        due("it stays, first", x.trace(0), 23);
        due("it stays, last", x.trace(3), 10);
        x.ask(3, 0);
        due("the first anew", x.trace(0), 13);
        due("the last anew", x.trace(1), 10);
        due("no more", x.trace(2), NONE);
    }

    private static void trace() {
        promise(34);
        says("Number i of THE TRACE; NONE.");
        AdventStreets x = Play.street(FIVE);
        x.ask(1, 0);
        int[] bodies = {12, 11, 10, 24, 21, 20};
        for (int i = 0; i < 6; i++) {
            due("trace(" + i + ")", x.trace(i), bodies[i]);
        }
        for (int i : new int[] {6, 15, 16, 17, -1, LOW, HIGH}) {
            due("trace(" + i + ")", x.trace(i), NONE);
        }
        due("before an ASK", new AdventStreets().trace(0), NONE);
        Play.read(x, TEN);
        x.times(1);
        due("it stays till the next", x.trace(5), 20);
    }

    private static void count() {
        promise(35);
        says("How many: 0 ROWS, 1 WINDOWS, 2 TIME, 3 THE DATE (0 without a STREET), 4 EVE, 5 SIGHT, 6 WINDOWS (bits)"
                + " that are OPEN, 7 ACTS that can be undone, 8 bytes on the tape.");
        AdventStreets x = new AdventStreets();
        due("THE DATE without a STREET", x.count(3), 0);
        Play.read(x, Play.ten("e24,3;", "f24,1,9;"));
        for (int row = 0; row < 8; row++) {
            x.row(row, 0, row);
        }
        x.times(24);
        x.open(9);
        int[] counts = {8, 10, 24, 1, 24, 3, 512, 24, 0};
        for (int what = 0; what <= 8; what++) {
            due("count(" + what + ")", x.count(what), counts[what]);
        }
        Play.feed(x, "x".repeat(131));
        due("count(8)", x.count(8), 130);
        says("BAD.");
        badBeyond("what", 0, 8, x::count);
        badBeyond("what without a STREET", 0, 8, what -> new AdventStreets().count(what));
    }

    private static void status() {
        promise(36);
        says("Of the latest call with a ROW, or as(), that was not BAD, STATE, FULL: the number of its FINDING;"
                + " 0: it had none, or there was none.");
        AdventStreets x = Play.street(FIVE);
        due("there was none", x.status(), 0);
        x.set(9, 0, 0);
        due("BAD first", x.status(), 0);
        dueStatus(x, "row", x.row(0, 0, -1), 4);
        dueStatus(x, "row", x.row(0, 0, 0), 0);
        dueStatus(x, "set", x.set(0, 0, 0), 2);
        dueStatus(x, "row", x.row(0, 0, 1), 0);
        dueStatus(x, "copy", x.copy(0, 0, 1, 0, 1), 1);
        dueStatus(x, "set", x.set(0, 0, 0), 0);
        dueStatus(x, "copy", x.copy(0, 0, 0, 1, 1), 2);
        dueStatus(x, "copy", x.copy(0, 0, 0, 0, 1), 0);
        dueStatus(x, "fits", x.fits(0, 0, 1, 1, 0), 2);
        dueStatus(x, "fits", x.fits(0, 0, 0, 1, 0), 0);
        dueStatus(x, "fits", x.fits(0, 1, 0, 1, 0), 1);
        dueStatus(x, "as", x.as(0, 1), 0);
        dueStatus(x, "as", x.as(0, 2), 3);
        dueStatus(x, "drop", x.drop(0), 0);
        dueStatus(x, "drop", x.drop(0), 1);
        dueStatus(x, "row", x.row(1, 1, 1), 0);
        x.row(2, 2, 2);
        dueStatus(x, "copy", x.copy(1, 0, 2, 0, 0), 5);
        dueStatus(x, "BAD", x.as(0, 6), 5);
    }

    private static void dueStatus(AdventStreets x, String call, int answer, int number) {
        due(call + " answered " + answer + ", status()", x.status(), number);
    }
}
