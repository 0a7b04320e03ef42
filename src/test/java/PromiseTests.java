/** Each promise by answers worked out by hand from the document: plain inputs, its edges, wrong inputs. */
public final class PromiseTests {
    private static final int NONE = -1000000, BAD = -1000001, STATE = -1000002, FULL = -1000003;
    private static final int NULL = -1000011, PLACE = -1000012, KIND = -1000013, SIZE = -1000014, STORE = -1000015;
    private static final int LOW = Integer.MIN_VALUE, HIGH = Integer.MAX_VALUE;

    private static final String FIVE = Play.FIVE;

    private static final Check CHECK = new Check("PromiseTests");
    private static String promise;

    public static void main(String[] args) {
        newObject();
        rowPromise();
        setPromise();
        copyPromise();
        dropPromise();
        feedPromise();
        streetPromise();
        faultPromise();
        timesPromise();
        turnsOfKinds();
        looks();
        openPromise();
        pressPromise();
        gluePromise();
        tradePromise();
        sightPromise();
        undoPromise();
        windowPromise();
        opensPromise();
        aheadPromise();
        spotsPromise();
        offPromise();
        shutPromise();
        tradesPromise();
        alongPromise();
        alikePromise();
        guessPromise();
        fitsPromise();
        windPromise();
        drawnPromise();
        imagePromise();
        restorePromise();
        kindPromise();
        asPromise();
        askPromise();
        tracePromise();
        countPromise();
        statusPromise();
        CHECK.end();
    }

    private static void due(String call, long got, long want) {
        CHECK.due(promise + ": " + call, got, want);
    }

    private static AdventStreets rowsOf(int lane, int n) {
        AdventStreets x = new AdventStreets();
        x.row(0, lane, n);
        return x;
    }

    private static void newObject() {
        promise = "1 a new object";
        AdventStreets x = new AdventStreets();
        for (int what = 0; what <= 8; what++) {
            due("count(" + what + ")", x.count(what), 0);
        }
        due("status()", x.status(), 0);
        due("fault()", x.fault(), 0);
        due("undo()", x.undo(), STATE);
        due("restore(0)", x.restore(0), STATE);
        due("restore(1)", x.restore(1), STATE);
        due("trace(0)", x.trace(0), NONE);
        due("drop(7)", x.drop(7), NULL);
        due("NONE", AdventStreets.NONE, NONE);
        due("BAD", AdventStreets.BAD, BAD);
        due("STATE", AdventStreets.STATE, STATE);
        due("FULL", AdventStreets.FULL, FULL);
    }

    private static void rowPromise() {
        promise = "2 row";
        AdventStreets x = new AdventStreets();
        due("row(0,0,0)", x.row(0, 0, 0), 0);
        due("row(7,2,40)", x.row(7, 2, 40), 40);
        due("count(0)", x.count(0), 2);
        due("row(8,0,1)", x.row(8, 0, 1), BAD);
        due("row(-1,0,1)", x.row(-1, 0, 1), BAD);
        due("row(1,-1,1)", x.row(1, -1, 1), BAD);
        due("row(1,3,1)", x.row(1, 3, 1), BAD);
        due("row(1,0,41)", x.row(1, 0, 41), BAD);
        due("row(1,0,HIGH)", x.row(1, 0, HIGH), BAD);
        due("row(1,0,-1)", x.row(1, 0, -1), SIZE);
        due("row(1,0,LOW)", x.row(1, 0, LOW), SIZE);
        due("row(8,0,-1)", x.row(8, 0, -1), BAD);
        due("row(1,3,-1)", x.row(1, 3, -1), BAD);
        due("row(7,0,-1)", x.row(7, 0, -1), SIZE);
        due("set(7,39,1) behind SIZE", x.set(7, 39, 1), 1);
        due("count(0)", x.count(0), 2);
        due("row(7,0,3) in place", x.row(7, 0, 3), 3);
        due("count(0)", x.count(0), 2);
        due("set(7,3,1)", x.set(7, 3, 1), PLACE);
        due("drop(7)", x.drop(7), 3);
        newItemsAreNone();
    }

    /** ITEMS are read by fits() alone: a flap of DAY 9 stays SHUT, so 0s alone fit it. */
    private static void newItemsAreNone() {
        AdventStreets x = Play.street("e24,1;f9,1,1;f9,1,1;");
        Play.tell(x, 0, 1, 1, 1);
        due("fits of 1s", x.fits(0, 0, 0, 3, 2), 0);
        x.row(0, 1, 3);
        due("fits of a new row", x.fits(0, 0, 0, 3, 2), 1023);
        x.drop(0);
        x.row(0, 1, 3);
        due("fits of a row dropped and made", x.fits(0, 0, 0, 3, 2), 1023);
    }

    private static void setPromise() {
        promise = "3 set";
        AdventStreets x = rowsOf(0, 2);
        due("set(0,0,127)", x.set(0, 0, 127), 127);
        due("set(0,0,128)", x.set(0, 0, 128), -128);
        due("set(0,1,-129)", x.set(0, 1, -129), 127);
        due("set(0,1,256)", x.set(0, 1, 256), 0);
        due("set(0,2,0)", x.set(0, 2, 0), PLACE);
        due("set(0,-1,0)", x.set(0, -1, 0), PLACE);
        due("set(0,LOW,0)", x.set(0, LOW, 0), PLACE);
        due("set(0,HIGH,0)", x.set(0, HIGH, 0), PLACE);
        due("set(1,0,0)", x.set(1, 0, 0), NULL);
        due("set(1,-1,0)", x.set(1, -1, 0), NULL);
        due("set(8,0,0)", x.set(8, 0, 0), BAD);
        due("set(-1,0,0)", x.set(-1, 0, 0), BAD);
        x = rowsOf(1, 1);
        due("set(0,0,32768)", x.set(0, 0, 32768), -32768);
        due("set(0,0,-32769)", x.set(0, 0, -32769), 32767);
        due("set(0,0,200)", x.set(0, 0, 200), 200);
        x = rowsOf(2, 1);
        due("set(0,0,LOW)", x.set(0, 0, LOW), LOW);
        due("set(0,0,70000)", x.set(0, 0, 70000), 70000);
        x = rowsOf(2, 0);
        due("set of an empty row", x.set(0, 0, 1), PLACE);
    }

    private static void copyPromise() {
        promise = "4 copy";
        AdventStreets x = new AdventStreets();
        x.row(0, 0, 4);
        x.row(1, 0, 2);
        x.row(2, 1, 4);
        due("copy(0,0,1,0,2)", x.copy(0, 0, 1, 0, 2), 2);
        due("copy(0,4,1,2,0)", x.copy(0, 4, 1, 2, 0), 0);
        due("copy(0,0,1,0,3)", x.copy(0, 0, 1, 0, 3), PLACE);
        due("copy(1,1,0,0,2)", x.copy(1, 1, 0, 0, 2), PLACE);
        due("copy(0,5,1,0,0)", x.copy(0, 5, 1, 0, 0), PLACE);
        due("copy(0,-1,1,0,1)", x.copy(0, -1, 1, 0, 1), PLACE);
        due("copy(0,0,1,-1,1)", x.copy(0, 0, 1, -1, 1), PLACE);
        due("copy(0,0,1,0,-1)", x.copy(0, 0, 1, 0, -1), PLACE);
        due("copy(0,HIGH,1,0,1)", x.copy(0, HIGH, 1, 0, 1), PLACE);
        due("copy(0,1,1,1,HIGH)", x.copy(0, 1, 1, 1, HIGH), PLACE);
        due("copy(0,0,2,0,1)", x.copy(0, 0, 2, 0, 1), STORE);
        due("STORE ahead of PLACE", x.copy(0, -1, 2, 0, 1), STORE);
        due("copy(0,0,3,0,1)", x.copy(0, 0, 3, 0, 1), NULL);
        due("copy(3,0,0,0,1)", x.copy(3, 0, 0, 0, 1), NULL);
        due("NULL ahead of PLACE", x.copy(3, -1, 0, 0, 1), NULL);
        due("copy(8,0,0,0,1)", x.copy(8, 0, 0, 0, 1), BAD);
        due("BAD ahead of NULL", x.copy(3, 0, -1, 0, 1), BAD);
        copyWithinOne();
    }

    /** The flap of DAY 3 is open behind turns 3 and 4 alone: 0 0 1 1 fits, and what is shifted does not. */
    private static void copyWithinOne() {
        AdventStreets x = Play.street("e9,1;f3,1,1;f9,1,1;");
        Play.tell(x, 0, 9, 0, 0, 1, 1);
        due("fits ahead", x.fits(0, 0, 0, 4, 1), 0);
        due("copy down", x.copy(0, 1, 0, 0, 4), 4);
        due("fits behind", x.fits(0, 0, 0, 4, 1), 1 << 3);
        due("copy up", x.copy(0, 0, 0, 1, 4), 4);
        due("fits shifted up", x.fits(0, 0, 1, 4, 1), 1 << 3);
        due("the first stays", x.fits(0, 0, 0, 5, 1), 1 << 4);
    }

    private static void dropPromise() {
        promise = "5 drop";
        AdventStreets x = rowsOf(1, 40);
        due("drop(0)", x.drop(0), 40);
        due("drop(0)", x.drop(0), NULL);
        due("set(0,0,0)", x.set(0, 0, 0), NULL);
        due("count(0)", x.count(0), 0);
        due("drop(8)", x.drop(8), BAD);
        due("drop(-1)", x.drop(-1), BAD);
        x.row(5, 0, 0);
        due("drop of an empty row", x.drop(5), 0);
    }

    private static void feedPromise() {
        promise = "6 feed";
        AdventStreets x = new AdventStreets();
        due("feed(-1)", x.feed(-1), BAD);
        due("feed(256)", x.feed(256), BAD);
        due("feed(0)", x.feed(0), 1);
        due("feed(255)", x.feed(255), 2);
        for (int i = 3; i <= 130; i++) {
            due("feed", x.feed('e'), i);
        }
        due("feed beyond", x.feed('e'), FULL);
        due("BAD ahead of FULL", x.feed(256), BAD);
        due("count(8)", x.count(8), 130);
        due("street()", x.street(), -1000100);
        due("feed behind street()", x.feed('e'), 1);
    }

    private static void faulty(String text, int at, int number) {
        AdventStreets x = new AdventStreets();
        due("street() of " + text, Play.read(x, text), -1000100 - at);
        due("fault() of " + text, x.fault(), number);
        due("count(8) of " + text, x.count(8), 0);
        due("count(1) of " + text, x.count(1), 0);
    }

    private static void streetPromise() {
        promise = "7 street";
        String ten = "f1,1,1;f1,1,1;f1,1,1;f1,1,1;f1,1,1;f1,1,1;f1,1,1;f1,1,1;f1,1,1;f1,1,1;";
        due("two", Play.read(new AdventStreets(), "e2,0;f1,0,0;r24,9,9;"), 2);
        due("ten", Play.read(new AdventStreets(), "e24,3;" + ten), 10);
        due("noughts ahead", Play.read(new AdventStreets(), "e05,03;t09,07,00;d01,02,03;"), 2);
        faulty("", 0, 1);
        faulty("e", 1, 1);
        faulty("f1,1,1;", 0, 1);
        faulty("E5,1;", 0, 1);
        faulty(" e5,1;", 0, 1);
        faulty("e,", 1, 1);
        faulty("e1,1;", 1, 2);
        faulty("e25,1;", 1, 2);
        faulty("e00,1;", 1, 2);
        faulty("e024,1;", 1, 1);
        faulty("e5;", 2, 1);
        faulty("e5,4;", 3, 2);
        faulty("e5,1,", 4, 1);
        faulty("e5,1;", 5, 1);
        faulty("e5,1;f1,1,1;", 12, 1);
        faulty("e5,1;f1,1,1;d", 13, 1);
        faulty("e5,1;f1,1,1;d1,1,1", 18, 1);
        faulty("e5,1;f1,1,1;f1,1,1;,", 19, 1);
        faulty("e5,1;f1,1,1;f1,1,1;e5,1;", 19, 1);
        faulty("e5,1;f1,1,1;f1,1,1; ", 19, 1);
        faulty("e5,1;f0,1,1;", 6, 2);
        faulty("e5,1;f25,1,1;", 6, 2);
        faulty("e5,1;f1,10,1;", 8, 2);
        faulty("e5,1;f1,1,10;", 10, 2);
        faulty("e5,1;f1,100,1;", 8, 1);
        faulty("e5,1;f1,1,1;\u00e9", 12, 1);
        faulty("e5,1;x1,1,1;", 5, 1);
        faulty("e5,1;ff1,1,1;", 6, 1);
        faulty("e2,0;" + ten + "f1,1,1;", 75, 3);
        faulty("e2,0;" + ten + "r", 75, 3);
        faulty("e2,0;" + ten + "x1,1,1;", 75, 1);
        faulty("e2,0;" + ten + "1", 75, 1);
        streetInPlace();
    }

    private static void streetInPlace() {
        AdventStreets x = Play.street(FIVE);
        x.row(3, 0, 3);
        x.image(0);
        due("times(2)", x.times(2), 27);
        due("opens(2)", x.opens(2), 31);
        due("a faulty text", Play.read(x, "e5,1;"), -1000105);
        due("the STREET stays", x.count(1), 5);
        due("TIME stays", x.count(2), 2);
        due("ACTS stay", x.count(7), 2);
        due("a new one", Play.read(x, "e7,2;t1,1,1;t2,2,2;"), 2);
        due("WINDOWS", x.count(1), 2);
        due("TIME", x.count(2), 0);
        due("EVE", x.count(4), 7);
        due("SIGHT", x.count(5), 2);
        due("OPEN", x.count(6), 0);
        due("ACTS", x.count(7), 0);
        due("undo()", x.undo(), STATE);
        due("SEEN", x.window(1, 4), 0);
        due("ROWS stay", x.count(0), 1);
        due("window(2,0)", x.window(2, 0), BAD);
        due("IMAGES stay", x.restore(0), 1);
        due("the first again", x.count(1), 5);
    }

    private static void faultPromise() {
        promise = "8 fault";
        AdventStreets x = new AdventStreets();
        due("fault()", x.fault(), 0);
        Play.read(x, "e1");
        due("fault() of a NUMBER", x.fault(), 2);
        due("a good one", Play.read(x, FIVE), 5);
        due("fault() stays", x.fault(), 2);
        Play.read(x, "q");
        due("fault() of a TOKEN", x.fault(), 1);
    }

    private static void timesPromise() {
        promise = "9 times";
        AdventStreets x = new AdventStreets();
        due("no STREET", x.times(1), STATE);
        due("no STREET ahead of BAD", x.times(0), STATE);
        x = Play.street(FIVE);
        due("times(0)", x.times(0), BAD);
        due("times(25)", x.times(25), BAD);
        due("times(-1)", x.times(-1), BAD);
        due("times(1)", x.times(1), 8);
        due("TIME", x.count(2), 1);
        due("ACTS", x.count(7), 1);
        due("times(24)", x.times(24), 0);
        due("TIME", x.count(2), 25);
        due("THE DATE", x.count(3), 1);
        due("ACTS", x.count(7), 24);
        for (int time = 25; time + 24 <= 9999; time += 24) {
            x.times(24);
        }
        due("TIME near its end", x.count(2), 9985);
        due("times(15)", x.times(15), FULL);
        due("BAD ahead of FULL", x.times(25), BAD);
        due("TIME stays", x.count(2), 9985);
        x.times(14);
        due("TIME at its end", x.count(2), 9999);
        due("times(1)", x.times(1), FULL);
        due("foretold goes on", x.opens(1) * 100 + x.opens(2), 12);
        x.undo();
        due("TIME undone", x.count(2), 9998);
    }

    private static void turn(String text, int... openBehind) {
        AdventStreets x = Play.street(text);
        for (int t = 0; t < openBehind.length; t++) {
            due("turn " + (t + 1) + " of " + text, x.times(1), openBehind[t]);
        }
    }

    private static void turnsOfKinds() {
        promise = "9 turns";
        turn("e4,0;f2,0,0;f4,0,0;", 0, 1, 1, 0, 0, 1);
        turn("e3,0;d1,0,0;d24,0,0;", 1, 1, 0, 1);
        turn("e3,0;d3,0,0;f24,0,0;", 0, 0, 0, 0);
        turn("e9,0;c2,0,1;c9,0,0;c8,0,1;", 2, 3);
        turn("e9,0;t2,0,4;t2,0,5;", 0, 1);
        turn("e9,0;r2,0,4;t8,0,0;r2,0,5;", 0, 1, 1);
        turn("e9,0;f1,0,0;r9,0,9;r9,0,9;r9,0,9;", 1, 3, 7, 15);
        turn("e9,0;r9,0,9;r9,0,9;f1,0,0;", 4, 6, 7);
        AdventStreets x = Play.street("e4,0;d1,0,9;f3,0,9;f4,0,1;f4,0,0;");
        x.press(0);
        x.times(1);
        due("GLUE of one that opened", x.window(0, 2), 8);
        x.press(0);
        due("a double one opens again", x.times(1), 1);
        due("its GLUE", x.window(0, 2), 7);
        x.times(1);
        due("GLUE of one that was open", x.window(0, 2), 7);
        due("GLUE of one that opened", x.window(1, 2), 8);
        due("all are pressed to", x.times(1), 0);
        due("GLUE of one pressed to", x.window(0, 2), 6);
        due("GLUE of one pressed to", x.window(1, 2), 7);
        due("GLUE of one opened and pressed to", x.window(2, 2), 0);
        due("GLUE is 0 at least", x.window(3, 2), 0);
    }

    private static void looks() {
        promise = "9 looks";
        AdventStreets x = Play.street("e3,2;f1,5,0;f3,6,0;f24,7,0;f2,5,0;");
        x.times(1);
        due("SEEN by 0, not its own", x.window(0, 4), 0);
        due("SEEN by 1", x.window(1, 4), 1 << 5);
        due("SEEN by 2", x.window(2, 4), 1 << 5);
        due("SEEN by 3, too far", x.window(3, 4), 0);
        x.times(1);
        due("SEEN by 2", x.window(2, 4), 1 << 5);
        x.times(1);
        due("SEEN by 0 ahead of the pressing", x.window(0, 4), 1 << 6);
        due("SEEN by 3", x.window(3, 4), 1 << 6);
        due("SEEN by 1 not its own", x.window(1, 4), 1 << 5);
        AdventStreets blind = Play.street("e3,0;f1,5,0;f1,6,0;");
        blind.times(3);
        due("SIGHT 0", blind.window(0, 4), 0);
    }

    private static void openPromise() {
        promise = "10 open";
        due("no STREET", new AdventStreets().open(0), BAD);
        AdventStreets x = Play.street(FIVE);
        due("open(3)", x.open(3), 7);
        due("open(3)", x.open(3), STATE);
        due("open(5)", x.open(5), BAD);
        due("open(-1)", x.open(-1), BAD);
        due("OPEN", x.count(6), 8);
        due("GLUE", x.window(3, 2), 4);
        due("nobody looks", x.window(2, 4), 0);
        due("ACTS", x.count(7), 1);
        due("TIME", x.count(2), 0);
    }

    private static void pressPromise() {
        promise = "11 press";
        due("no STREET", new AdventStreets().press(0), BAD);
        AdventStreets x = Play.street(FIVE);
        due("press(3)", x.press(3), STATE);
        x.open(3);
        due("press(3)", x.press(3), 4);
        due("GLUE stays", x.window(3, 2), 4);
        due("OPEN", x.count(6), 0);
        due("ACTS", x.count(7), 2);
        due("press(5)", x.press(5), BAD);
        due("press(LOW)", x.press(LOW), BAD);
    }

    private static void gluePromise() {
        promise = "12 glue";
        due("no STREET", new AdventStreets().glue(0, 1), BAD);
        AdventStreets x = Play.street(FIVE);
        due("glue(0,3)", x.glue(0, 3), 7);
        due("glue(0,9)", x.glue(0, 9), 9);
        due("glue(0,1)", x.glue(0, 1), 9);
        due("GLUE", x.window(0, 2), 9);
        due("ACTS", x.count(7), 3);
        due("glue(0,0)", x.glue(0, 0), BAD);
        due("glue(0,10)", x.glue(0, 10), BAD);
        due("glue(0,-1)", x.glue(0, -1), BAD);
        due("glue(5,1)", x.glue(5, 1), BAD);
    }

    private static void tradePromise() {
        promise = "13 trade";
        due("no STREET", new AdventStreets().trade(0, 1), BAD);
        AdventStreets x = Play.street(FIVE);
        due("trade(0,3)", x.trade(0, 3), 1);
        due("DAY", x.window(0, 0), 1);
        due("DAY", x.window(3, 0), 2);
        due("trade(0,1)", x.trade(3, 1), 2);
        due("ACTS", x.count(7), 2);
        due("alike", x.trade(2, 2), BAD);
        due("trade(0,5)", x.trade(0, 5), BAD);
        due("trade(-1,0)", x.trade(-1, 0), BAD);
    }

    private static void sightPromise() {
        promise = "14 sight";
        due("no STREET", new AdventStreets().sight(1), STATE);
        due("no STREET ahead of BAD", new AdventStreets().sight(4), STATE);
        AdventStreets x = Play.street(FIVE);
        due("sight(3)", x.sight(3), 1);
        due("sight(3)", x.sight(3), 3);
        due("sight(0)", x.sight(0), 3);
        due("sight(4)", x.sight(4), BAD);
        due("sight(-1)", x.sight(-1), BAD);
        due("SIGHT", x.count(5), 0);
        due("ACTS", x.count(7), 3);
    }

    private static void undoPromise() {
        promise = "15 undo";
        due("no STREET", new AdventStreets().undo(), STATE);
        AdventStreets x = Play.street("e3,1;f1,1,9;f3,2,5;");
        due("none", x.undo(), STATE);
        x.times(3);
        x.trade(0, 1);
        x.sight(0);
        x.glue(1, 2);
        x.open(0);
        x.press(0);
        due("OPEN", x.undo() * 10 + x.count(6), 71);
        due("press undone, open undone", x.undo() * 10 + x.count(6), 60);
        due("glue undone", x.undo() * 10 + x.window(1, 2), 54);
        due("sight undone", x.undo() * 10 + x.count(5), 41);
        due("trade undone", x.undo() * 10 + x.window(0, 0), 31);
        due("SEEN", x.window(0, 4), 4);
        due("the eve undone", x.undo(), 2);
        due("OPEN", x.count(6), 1);
        due("GLUE", x.window(0, 2), 8);
        due("GLUE", x.window(1, 2), 5);
        due("SEEN", x.window(0, 4), 0);
        due("TIME", x.count(2), 2);
        due("undo()", x.undo(), 1);
        due("undo()", x.undo(), 0);
        due("TIME", x.count(2), 0);
        due("undo()", x.undo(), STATE);
        onlySoManyUndone();
    }

    private static void onlySoManyUndone() {
        AdventStreets x = Play.street("e3,1;f1,1,9;f3,2,5;");
        x.times(20);
        x.times(10);
        due("ACTS", x.count(7), 24);
        for (int yet = 23; yet >= 0; yet--) {
            due("undo()", x.undo(), yet);
        }
        due("TIME", x.count(2), 6);
        due("undo()", x.undo(), STATE);
        x.glue(0, 9);
        due("also one that changed nothing", x.undo(), 0);
    }

    private static void windowPromise() {
        promise = "16 window";
        due("no STREET", new AdventStreets().window(0, 0), BAD);
        AdventStreets x = Play.street(FIVE);
        due("DAY", x.window(2, 0), 4);
        due("PICTURE", x.window(2, 1), 3);
        due("GLUE", x.window(2, 2), 1);
        due("OPEN", x.window(3, 3), 0);
        due("would OPEN", x.window(3, 5), 1);
        due("would not OPEN", x.window(0, 5), 0);
        x.times(1);
        due("OPEN", x.window(3, 3), 1);
        due("were it SHUT, its DAY is gone", x.window(3, 5), 0);
        due("SEEN", x.window(2, 4), 1 << 7);
        due("flap would", x.window(0, 5), 1);
        due("double one would", x.window(1, 5), 1);
        due("card would not", x.window(2, 5), 0);
        due("ruler would", x.window(4, 5), 1);
        x.press(3);
        due("ruler would not", x.window(4, 5), 0);
        due("what 6", x.window(0, 6), BAD);
        due("what -1", x.window(0, -1), BAD);
        due("window 5", x.window(5, 0), BAD);
        due("window -1", x.window(-1, 0), BAD);
    }

    private static void opensPromise() {
        promise = "17 opens";
        due("no STREET", new AdventStreets().opens(0), STATE);
        due("no STREET ahead of BAD", new AdventStreets().opens(61), STATE);
        AdventStreets x = Play.street(FIVE);
        due("opens(0)", x.opens(0), 0);
        due("opens(1)", x.opens(1), 8);
        due("opens(2)", x.opens(2), 27);
        due("opens(3)", x.opens(3), 27);
        due("opens(4)", x.opens(4), 31);
        due("opens(5)", x.opens(5), 0);
        due("opens(6): the card has no GLUE", x.opens(6), 12);
        due("opens(60)", x.opens(60), 0);
        due("opens(61)", x.opens(61), BAD);
        due("opens(-1)", x.opens(-1), BAD);
        due("nothing changes", x.count(6) + x.count(2) + x.count(7), 0);
        x.open(0);
        due("opens(0)", x.opens(0), 1);
    }

    private static void aheadPromise() {
        promise = "18 ahead";
        due("no STREET", new AdventStreets().ahead(0, 0, 0), BAD);
        AdventStreets x = Play.street(FIVE);
        due("GLUE now", x.ahead(3, 0, 0), 4);
        due("GLUE behind 1", x.ahead(3, 1, 0), 3);
        due("GLUE behind 5", x.ahead(3, 5, 0), 2);
        due("SEEN now", x.ahead(2, 0, 1), 0);
        due("SEEN behind 1", x.ahead(2, 1, 1), 128);
        due("SEEN behind 2", x.ahead(2, 2, 1), 130);
        due("SEEN stays behind the eve", x.ahead(2, 60, 1), 130);
        due("d 61", x.ahead(0, 61, 0), BAD);
        due("d -1", x.ahead(0, -1, 0), BAD);
        due("what 2", x.ahead(0, 0, 2), BAD);
        due("what -1", x.ahead(0, 0, -1), BAD);
        due("window 5", x.ahead(5, 0, 0), BAD);
        due("nothing changes", x.window(2, 4), 0);
    }

    private static void spotsPromise() {
        promise = "19 spots";
        due("no STREET", new AdventStreets().spots(0, 0), BAD);
        AdventStreets x = Play.street(FIVE);
        due("spots(2,7)", x.spots(2, 7), 1);
        due("spots(2,1)", x.spots(2, 1), 2);
        due("spots(1,3)", x.spots(1, 3), 2);
        due("spots(3,3)", x.spots(3, 3), 4);
        due("picture 0", x.spots(3, 0), 2);
        due("its own", x.spots(0, 3), NONE);
        due("too far", x.spots(0, 7), NONE);
        x.times(1);
        due("now", x.spots(2, 7), 0);
        due("picture 10", x.spots(0, 10), BAD);
        due("picture -1", x.spots(0, -1), BAD);
        due("window 5", x.spots(5, 0), BAD);
        AdventStreets late = Play.street("e2,1;f1,1,0;f9,2,0;");
        due("never", late.spots(0, 2), NONE);
        // The card's GLUE is off behind 57 turns; it is open from 58 on, and a ruler further each turn.
        late = Play.street("e19,1;c19,1,3;r24,2,9;r24,3,9;r24,5,9;f24,4,9;");
        due("spots(3,3)", late.spots(3, 3), 60);
        due("spots(4,5)", late.spots(4, 5), NONE);
        late.times(1);
        due("spots(4,5) a turn on", late.spots(4, 5), 60);
    }

    private static void offPromise() {
        promise = "20 off";
        due("no STREET", new AdventStreets().off(0), STATE);
        due("no STREET ahead of BAD", new AdventStreets().off(2), STATE);
        AdventStreets x = Play.street(FIVE);
        due("which", x.off(0), 2);
        due("when", x.off(1), 4);
        due("what 2", x.off(2), BAD);
        due("what -1", x.off(-1), BAD);
        x = Play.street("e9,0;f1,0,9;f2,0,0;t3,0,0;");
        due("which of several", x.off(0), 1);
        due("now", x.off(1), 0);
        x = Play.street("e20,0;f20,0,9;f20,0,3;");
        due("which at last", x.off(0), 1);
        due("at last", x.off(1), 60);
        x = Play.street("e20,0;f20,0,9;f20,0,4;");
        due("none", x.off(0), NONE);
        due("none", x.off(1), NONE);
        x = Play.street("e20,0;f24,0,9;f1,0,7;");
        due("a turn too late", x.off(0), NONE);
        due("a turn too late", x.off(1), NONE);
        x.times(1);
        due("a turn on", x.off(1), 60);
        due("of two the first", Play.street("e9,0;f1,0,0;f2,0,0;").off(0), 0);
        x = Play.street("e20,0;f20,0,9;f20,0,4;");
        due("nothing changes", x.window(1, 2), 4);
    }

    private static void shutPromise() {
        promise = "21 shut";
        due("no STREET", new AdventStreets().shut(0, 1, 0), BAD);
        AdventStreets x = Play.street(FIVE);
        due("a flap, a turn ahead", x.shut(0, 1, 0), 0);
        due("a flap, a turn ahead", x.shut(0, 1, 1), 0);
        due("a flap", x.shut(0, 2, 0), NONE);
        due("a flap", x.shut(0, 2, 1), NONE);
        due("a tight one", x.shut(3, 24, 0), 1);
        due("a tight one", x.shut(3, 24, 1), 8);
        due("a ruler by the one beside", x.shut(4, 24, 0), 1);
        due("a ruler by the one beside", x.shut(4, 24, 1), 8);
        due("a card ahead of its DAY", x.shut(2, 3, 0), 0);
        due("a card", x.shut(2, 4, 0), NONE);
        due("n 0", x.shut(0, 0, 0), BAD);
        due("n 25", x.shut(0, 25, 0), BAD);
        due("what 2", x.shut(0, 1, 2), BAD);
        due("window 5", x.shut(5, 1, 0), BAD);
        x.open(3);
        due("it is OPEN", x.shut(3, 1, 0), NONE);
        due("it is OPEN", x.shut(3, 1, 1), NONE);
        due("one beside is OPEN", x.shut(4, 1, 0), NONE);
        shutOfSeveral();
    }

    private static void shutOfSeveral() {
        AdventStreets x = Play.street("e5,1;t1,1,4;r3,0,3;f24,0,0;c24,2,0;");
        due("both", x.shut(1, 3, 0), 2);
        due("both", x.shut(1, 3, 1), 3);
        due("one", x.shut(1, 2, 1), 1);
        due("a card without GLUE", x.shut(3, 24, 1), 8);
        due("a flap beyond the EVE", x.shut(2, 24, 1), 0);
        // The ruler of DAY 1 wears to 4 on the EVE, if the tight one was OPEN: either may be glued.
        x = Play.street("e4,1;t3,1,4;r1,2,5;r9,3,9;");
        due("ahead of it", x.shut(2, 5, 0), 0);
        due("either", x.shut(2, 6, 0), 1);
        due("the least", x.shut(2, 6, 1), 1);
        x = Play.street("e4,1;r9,3,9;r1,2,5;t3,1,4;");
        due("either", x.shut(0, 6, 0), 1);
        due("the least", x.shut(0, 6, 1), 2);
        // Glued may be the first two, by whom the third wears, or the third.
        x = Play.street("e4,1;t2,1,4;r3,2,4;r1,3,5;r9,4,9;");
        due("the fewest", x.shut(3, 6, 0), 1);
        due("the fewest", x.shut(3, 6, 1), 4);
        due("nothing changes", x.window(2, 2), 5);
    }

    private static void tradesPromise() {
        promise = "22 trades";
        due("no STREET", new AdventStreets().trades(0, 1, 0), BAD);
        AdventStreets x = Play.street("e9,1;f8,1,0;f9,2,0;f1,3,0;");
        due("the first of alike ones", x.trades(1, 1, 0), 1);
        due("one", x.trades(1, 1, 1), 1);
        due("the best", x.trades(1, 8, 0), 2);
        due("two", x.trades(1, 8, 1), 2);
        due("seen ahead of the pressing", x.trades(1, 9, 0), 1);
        due("two", x.trades(1, 9, 1), 2);
        due("a later pair", x.trades(0, 1, 0), 12);
        due("how many by it", x.trades(0, 1, 1), 1);
        due("n 0", x.trades(1, 0, 0), BAD);
        due("n 25", x.trades(1, 25, 0), BAD);
        due("what -1", x.trades(1, 1, -1), BAD);
        due("window 3", x.trades(3, 1, 0), BAD);
        due("nothing changes", x.window(0, 0) * 10 + x.count(7), 80);
        x.times(1);
        due("what was SEEN counts", x.trades(1, 1, 1), 1);
        due("two windows have one pair", Play.street("e3,1;f1,1,1;f2,2,2;").trades(1, 1, 0), 1);
    }

    private static void alongPromise() {
        promise = "23 along";
        due("no STREET", new AdventStreets().along(0, 0), BAD);
        AdventStreets x = Play.street(FIVE);
        due("along(0,0)", x.along(0, 0), 4);
        due("along(0,1)", x.along(0, 1), 5);
        due("along(2,0)", x.along(2, 0), 2);
        x.open(1);
        due("stopped by an OPEN one", x.along(0, 0), 0);
        due("stopped by an OPEN one", x.along(0, 1), 1);
        due("from an OPEN one", x.along(1, 0), 3);
        due("from an OPEN one", x.along(1, 1), 5);
        x.sight(2);
        due("past an OPEN one", x.along(0, 0), 2);
        due("past an OPEN one", x.along(0, 1), 4);
        x.sight(0);
        due("SIGHT 0", x.along(0, 0), 0);
        due("SIGHT 0", x.along(0, 1), 1);
        due("what 2", x.along(0, 2), BAD);
        due("window 5", x.along(5, 0), BAD);
    }

    private static void alikePromise() {
        promise = "24 alike";
        due("no STREET", new AdventStreets().alike(0), STATE);
        due("no STREET ahead of BAD", new AdventStreets().alike(2), STATE);
        AdventStreets x = Play.street(FIVE);
        due("how many", x.alike(0), 1);
        due("the first", x.alike(1), 2);
        due("what 2", x.alike(2), BAD);
        due("what -1", x.alike(-1), BAD);
        x = Play.street("e5,1;f1,1,1;f1,2,1;f1,2,1;f1,2,1;f1,1,1;");
        due("how many", x.alike(0), 4);
        due("the first", x.alike(1), 4);
        due("not with 0", Play.street("e5,1;f1,0,1;f1,2,1;f1,2,1;").alike(1), 12);
        x = Play.street("e5,1;f1,1,1;f1,2,1;");
        due("how many of none", x.alike(0), 0);
        due("the first of none", x.alike(1), NONE);
    }

    private static void guessPromise() {
        promise = "25 guess";
        due("no STREET", new AdventStreets().guess(0), BAD);
        AdventStreets x = Play.street(FIVE);
        due("guess(0)", x.guess(0), 139);
        x.times(1);
        due("guess(2)", x.guess(2), 11);
        due("its own", x.guess(3), 139);
        due("guess(4)", x.guess(4), 11);
        due("guess(5)", x.guess(5), BAD);
        due("guess(-1)", x.guess(-1), BAD);
    }

    private static void fitsPromise() {
        promise = "26 fits";
        due("no STREET", new AdventStreets().fits(0, 0, 0, 1, 0), BAD);
        AdventStreets x = Play.street(FIVE);
        Play.tell(x, 0, 1, 0, 1, 0, 0, 2);
        due("KINDS of 1", x.fits(3, 0, 0, 1, 0), 62);
        due("KINDS of 0 1", x.fits(4, 0, 1, 2, 0), 32);
        due("KINDS of 0 0", x.fits(4, 0, 3, 2, 0), 30);
        due("DATES of 0 1", x.fits(4, 0, 1, 2, 1), (1 << 25) - 2);
        due("DATES of 0 0", x.fits(4, 0, 3, 2, 1), 0);
        due("DATES of a flap", x.fits(0, 0, 1, 2, 1), 4);
        due("DATES of a double one", x.fits(1, 0, 0, 1, 1), 2);
        due("GLUES of 1", x.fits(3, 0, 0, 1, 2), 31);
        due("GLUES of 0", x.fits(3, 0, 1, 1, 2), 992);
        due("GLUES of a card", x.fits(2, 0, 0, 1, 2), 1);
        Play.tell(x, 1, 0, 1, 1);
        due("EVES of 0 1 1", x.fits(0, 1, 0, 3, 3), (1 << 25) - 16);
        due("EVES of 0", x.fits(0, 1, 0, 1, 3), (1 << 25) - 4);
        due("neither 1 nor 0", x.fits(0, 0, 5, 1, 1), 0);
        x.row(2, 2, 12);
        due("twelve", x.fits(0, 2, 0, 12, 1), ((1 << 25) - 1) & ~63 | 32);
        due("nothing changes", x.kind(3) * 100 + x.window(3, 0) * 10 + x.count(4), 415);
        fitsRefused(x);
        fitsLater();
    }

    private static void fitsRefused(AdventStreets x) {
        due("n 13", x.fits(0, 2, 0, 13, 0), BAD);
        due("n 0", x.fits(0, 0, 0, 0, 0), BAD);
        due("what 4", x.fits(0, 0, 0, 1, 4), BAD);
        due("what -1", x.fits(0, 0, 0, 1, -1), BAD);
        due("row 8", x.fits(0, 8, 0, 1, 0), BAD);
        due("row -1", x.fits(0, -1, 0, 1, 0), BAD);
        due("window 5", x.fits(5, 0, 0, 1, 0), BAD);
        due("BAD ahead of NULL", x.fits(0, 7, 0, 13, 0), BAD);
        due("missing", x.fits(0, 7, 0, 1, 0), NULL);
        due("NULL ahead of PLACE", x.fits(0, 7, -1, 1, 0), NULL);
        due("beyond the end", x.fits(0, 1, 1, 3, 0), PLACE);
        due("below 0", x.fits(0, 1, -1, 1, 0), PLACE);
        due("far beyond", x.fits(0, 1, HIGH, 1, 0), PLACE);
    }

    /** TIME 5: THE DATE is 2 by EVE 2 (pressed to at once) and by EVE 4. */
    private static void fitsLater() {
        AdventStreets x = Play.street("e5,1;f2,1,1;f9,1,1;");
        x.times(5);
        Play.tell(x, 0, 1);
        due("EVES later", x.fits(0, 0, 0, 1, 3), 16);
        due("DATES later", x.fits(0, 0, 0, 1, 1), 2);
    }

    private static void dueFraction(String call, AdventStreets x, int[] of, long above, long below) {
        due(call + " above", x.wind(of[0], of[1], of[2], 0), above);
        due(call + " below", x.wind(of[0], of[1], of[2], 1), below);
    }

    private static void windPromise() {
        promise = "27 wind";
        due("no STREET", new AdventStreets().wind(0, 0, 0, 0), BAD);
        AdventStreets x = Play.street(FIVE);
        dueFraction("now", x, new int[] {0, 0, 3}, 3, 10);
        dueFraction("in lowest terms", x, new int[] {0, 0, 5}, 1, 2);
        dueFraction("no wind", x, new int[] {0, 0, 0}, 0, 1);
        dueFraction("a gale", x, new int[] {0, 0, 10}, 1, 1);
        dueFraction("on its DAY", x, new int[] {0, 2, 3}, 1, 1);
        dueFraction("a ruler", x, new int[] {4, 1, 3}, 51, 100);
        dueFraction("a ruler, no wind", x, new int[] {4, 2, 0}, 1, 1);
        dueFraction("behind the EVE", x, new int[] {0, 5, 3}, 0, 1);
        due("n 25", x.wind(0, 25, 0, 0), BAD);
        due("n -1", x.wind(0, -1, 0, 0), BAD);
        due("c 11", x.wind(0, 0, 11, 0), BAD);
        due("c -1", x.wind(0, 0, -1, 0), BAD);
        due("what 2", x.wind(0, 0, 0, 2), BAD);
        due("window 5", x.wind(5, 0, 0, 0), BAD);
        due("n 24", x.wind(0, 24, 0, 1), 1);
        due("nothing changes", x.count(6), 0);
        x.open(3);
        dueFraction("it is OPEN", x, new int[] {3, 0, 3}, 1, 1);
        dueFraction("one beside is OPEN", x, new int[] {4, 1, 3}, 1, 1);
        x = Play.street("e24,0;r24,0,9;r24,0,9;r24,0,9;r24,0,9;r24,0,9;r24,0,9;r24,0,9;r24,0,9;r24,0,9;r24,0,9;");
        dueFraction("ten rulers", x, new int[] {0, 9, 1}, 6513215599L, 10000000000L);
    }

    /** By SEED 1, X is 16807, 282475249, 1622650073, 984943658, 1144108930, 470211272, 101027544, .. */
    private static void drawnPromise() {
        promise = "28 drawn";
        due("no STREET", new AdventStreets().drawn(0, 1, 0), STATE);
        due("no STREET ahead of BAD", new AdventStreets().drawn(0, 0, 0), STATE);
        AdventStreets x = Play.street("e24,1;f24,1,9;f24,2,9;");
        due("none by 6", x.drawn(6, 1, 0), 0);
        due("one by 7", x.drawn(7, 1, 0), 1);
        due("its PICTURE", x.drawn(7, 1, 1), 1);
        due("it stays", x.drawn(10, 1, 0), 1);
        due("n 0", x.drawn(0, 999999, 0), 0);
        due("by SEED 3, X 50421", x.drawn(1, 3, 0), 1);
        due("n 61", x.drawn(61, 1, 0), BAD);
        due("n -1", x.drawn(-1, 1, 0), BAD);
        due("seed 0", x.drawn(1, 0, 0), BAD);
        due("seed 1000000", x.drawn(1, 1000000, 0), BAD);
        due("what 2", x.drawn(1, 1, 2), BAD);
        due("nothing changes", x.count(2) + x.count(6) + x.count(7), 0);
        x.open(0);
        due("pressed to by 7", x.drawn(7, 1, 0), 0);
        x.undo();
        x.open(1);
        x.times(1);
        due("pressed to by SEED 3", x.drawn(1, 3, 0), 0);
        due("what was SEEN counts", x.drawn(0, 1, 1), 1);
        due("OPEN now", x.drawn(0, 1, 0), 1);
        x = Play.street("e24,1;t3,1,9;t3,2,9;");
        due("loose by 3", x.drawn(3, 1, 0), 1);
        due("seen by 3", x.drawn(3, 1, 1), 1);
        x = Play.street("e24,1;t2,1,9;t2,2,1;");
        due("fast by 2", x.drawn(2, 1, 0), 0);
    }

    private static void imagePromise() {
        promise = "29 image";
        AdventStreets x = new AdventStreets();
        due("image(0)", x.image(0), STATE);
        due("image(2)", x.image(2), BAD);
        due("image(-1)", x.image(-1), BAD);
        Play.read(x, FIVE);
        due("image(2)", x.image(2), BAD);
        due("image(1)", x.image(1), 1);
        due("image(0)", x.image(0), 1);
        due("no ACT", x.count(7), 0);
    }

    private static void restorePromise() {
        promise = "30 restore";
        AdventStreets x = new AdventStreets();
        due("restore(0)", x.restore(0), STATE);
        due("restore(2)", x.restore(2), BAD);
        due("restore(-1)", x.restore(-1), BAD);
        Play.read(x, FIVE);
        x.times(1);
        x.image(0);
        due("restore(1)", x.restore(1), STATE);
        x.times(3);
        x.trade(0, 2);
        x.sight(3);
        x.glue(3, 5);
        x.image(1);
        Play.read(x, "e9,0;f1,1,1;f1,1,1;");
        x.times(1);
        due("restore(0)", x.restore(0), 1);
        due("WINDOWS", x.count(1), 5);
        due("TIME", x.count(2), 1);
        due("EVE", x.count(4), 5);
        due("SIGHT", x.count(5), 1);
        due("OPEN", x.count(6), 8);
        due("no ACT", x.undo(), STATE);
        due("DAY", x.window(0, 0), 2);
        due("GLUE", x.window(3, 2), 3);
        due("SEEN", x.window(2, 4), 128);
        due("kind", x.kind(4), 5);
        due("times(1)", x.times(1), 27);
        due("restore(0) again", x.restore(0), 1);
        due("the IMAGE stays", x.count(6), 8);
        due("restore(1)", x.restore(1), 1);
        due("OPEN", x.count(6), 31);
        due("DAY", x.window(0, 0), 4);
        due("SIGHT", x.count(5), 3);
    }

    private static void kindPromise() {
        promise = "31 kind";
        due("no STREET", new AdventStreets().kind(0), BAD);
        AdventStreets x = Play.street(FIVE);
        for (int w = 0; w < 5; w++) {
            due("kind(" + w + ")", x.kind(w), w + 1);
        }
        due("kind(5)", x.kind(5), BAD);
        due("kind(-1)", x.kind(-1), BAD);
    }

    private static void asPromise() {
        promise = "32 as";
        due("no STREET", new AdventStreets().as(0, 0), BAD);
        AdventStreets x = Play.street(FIVE);
        String[] kinds = {"01", "012", "013", "04", "045"};
        for (int w = 0; w < 5; w++) {
            for (int kind = 0; kind <= 5; kind++) {
                boolean is = kinds[w].indexOf('0' + kind) >= 0;
                due("as(" + w + "," + kind + ")", x.as(w, kind), is ? w : KIND);
                due("status()", x.status(), is ? 0 : 3);
            }
        }
        due("as(0,6)", x.as(0, 6), BAD);
        due("as(0,-1)", x.as(0, -1), BAD);
        due("as(5,0)", x.as(5, 0), BAD);
        due("kind stays", x.kind(4), 5);
    }

    private static void dueAsk(AdventStreets x, int window, int what, int answer, int... bodies) {
        String call = "ask(" + window + "," + what + ")";
        due(call, x.ask(window, what), answer);
        for (int i = 0; i < 16; i++) {
            due(call + " trace(" + i + ")", x.trace(i), i < bodies.length ? bodies[i] : NONE);
        }
    }

    private static void askPromise() {
        promise = "33 ask";
        due("no STREET", new AdventStreets().ask(0, 0), BAD);
        AdventStreets x = Play.street(FIVE);
        dueAsk(x, 0, 0, 7, 11, 10, 21, 20);
        dueAsk(x, 0, 1, 4, 21, 20);
        dueAsk(x, 1, 0, -7, 12, 11, 10, 24, 21, 20);
        dueAsk(x, 1, 1, 6, 24, 21, 20);
        dueAsk(x, 2, 0, -994, 11, 10, 22, 21, 20);
        dueAsk(x, 2, 1, -997, 22, 21, 20);
        dueAsk(x, 3, 0, -93, 13, 10);
        dueAsk(x, 3, 1, 96, 23, 20, 13, 10);
        dueAsk(x, 4, 0, -200, 14, 13, 10);
        dueAsk(x, 4, 1, 204, 23, 20, 14, 13, 10);
        due("ask(5,0)", x.ask(5, 0), BAD);
        due("ask(0,2)", x.ask(0, 2), BAD);
        due("ask(0,-1)", x.ask(0, -1), BAD);
        due("THE TRACE stays", x.trace(0), 23);
        x.glue(0, 5);
        dueAsk(x, 0, 1, 9, 21, 20);
    }

    private static void tracePromise() {
        promise = "34 trace";
        AdventStreets x = Play.street(FIVE);
        due("empty", x.trace(0), NONE);
        x.ask(1, 0);
        due("trace(0)", x.trace(0), 12);
        due("trace(5)", x.trace(5), 20);
        due("trace(6)", x.trace(6), NONE);
        due("trace(-1)", x.trace(-1), NONE);
        due("trace(16)", x.trace(16), NONE);
        due("trace(LOW)", x.trace(LOW), NONE);
        due("trace(HIGH)", x.trace(HIGH), NONE);
        x.ask(3, 0);
        due("empty ahead of an ask", x.trace(2), NONE);
    }

    private static void countPromise() {
        promise = "35 count";
        AdventStreets x = Play.street(FIVE);
        x.row(0, 0, 1);
        x.row(4, 1, 0);
        x.times(7);
        x.feed('e');
        due("ROWS", x.count(0), 2);
        due("WINDOWS", x.count(1), 5);
        due("TIME", x.count(2), 7);
        due("THE DATE", x.count(3), 3);
        due("EVE", x.count(4), 5);
        due("SIGHT", x.count(5), 1);
        due("OPEN", x.count(6), x.opens(0));
        due("OPEN", x.count(6), 31);
        due("ACTS", x.count(7), 7);
        due("bytes", x.count(8), 1);
        due("count(9)", x.count(9), BAD);
        due("count(-1)", x.count(-1), BAD);
    }

    private static void statusPromise() {
        promise = "36 status";
        AdventStreets x = new AdventStreets();
        x.set(0, 0, 0);
        due("NULL", x.status(), 1);
        x.set(8, 0, 0);
        due("BAD leaves it", x.status(), 1);
        x.row(0, 0, 2);
        due("none", x.status(), 0);
        x.set(0, 2, 0);
        due("PLACE", x.status(), 2);
        x.set(0, 1, 0);
        due("none", x.status(), 0);
        x.row(0, 0, -1);
        due("SIZE", x.status(), 4);
        x.copy(0, 0, 0, 0, 1);
        due("none", x.status(), 0);
        x.row(1, 1, 1);
        x.copy(0, 0, 1, 0, 1);
        due("STORE", x.status(), 5);
        x.drop(1);
        due("none", x.status(), 0);
        x.drop(1);
        due("NULL", x.status(), 1);
        Play.read(x, FIVE);
        x.times(1);
        x.open(3);
        x.ask(0, 0);
        due("others leave it", x.status(), 1);
        x.fits(0, 0, 0, 1, 0);
        due("none", x.status(), 0);
        x.as(0, 2);
        due("KIND", x.status(), 3);
        x.as(0, 6);
        due("BAD leaves it", x.status(), 3);
        x.as(0, 1);
        due("none", x.status(), 0);
        x.fits(0, 0, 2, 1, 0);
        due("PLACE", x.status(), 2);
        x.fits(0, 8, 2, 1, 0);
        due("BAD leaves it", x.status(), 2);
        x.fits(0, 7, 2, 1, 0);
        due("NULL", x.status(), 1);
    }
}
