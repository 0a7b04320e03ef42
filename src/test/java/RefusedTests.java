import java.util.ArrayList;
import java.util.Arrays;
import java.util.Collections;
import java.util.List;
import java.util.function.Consumer;
import java.util.function.Function;

/**
 * Of two objects that were played alike one is refused a call, or foretells something; then both
 * answer alike all that can be asked of them, undone and restored.
 */
public final class RefusedTests {
    private static final int BAD = -1000001, STATE = -1000002, FULL = -1000003;
    private static final int NULL = -1000011, PLACE = -1000012, KIND = -1000013, SIZE = -1000014, STORE = -1000015;
    private static final int LOW = Integer.MIN_VALUE, HIGH = Integer.MAX_VALUE;

    private static final Check CHECK = new Check("RefusedTests");

    /** How both objects are played, and what they are asked then; all of it in fewer than 512 calls. */
    private static Consumer<AdventStreets> play;
    private static Function<AdventStreets, List<Long>> answers = RefusedTests::answersOf;

    public static void main(String[] args) {
        play = RefusedTests::lived;
        badRows();
        badWindows();
        badWhats();
        foundOnes();
        stateOnes();
        foretoldOnes();
        fullOnes();
        play = x -> Play.feed(x, "e7,2;t1,1,1;");
        streetless();
        CHECK.end();
    }

    /** FIVE, somewhat lived through: 24 ACTS kept, an IMAGE, ROWS 0 .. 2, a TRACE, half a text on the tape. */
    private static void lived(AdventStreets x) {
        Play.read(x, Play.FIVE);
        Play.tell(x, 0, 1, 0, 1, 1);
        x.row(1, 1, 3);
        x.row(2, 2, 40);
        x.set(1, 0, 1);
        x.image(0);
        x.times(24);
        x.glue(0, 3);
        x.trade(0, 1);
        x.sight(2);
        x.open(2);
        x.times(2);
        x.ask(1, 0);
        Play.feed(x, "e7,2;t1,1,1;");
    }

    private static void due(String call, long got, long want) {
        CHECK.due(call, got, want);
    }

    private static AdventStreets played(int status) {
        AdventStreets x = new AdventStreets();
        play.accept(x);
        if (status != 0) {
            x.row(0, 0, -1);
        }
        return x;
    }

    private static boolean isFinding(int answer) {
        return answer <= -1000011 && answer >= -1000015;
    }

    private static void refused(String call, int want, Function<AdventStreets, Number> made) {
        for (int status = 0; status <= 4; status += 4) {
            AdventStreets x = played(status);
            due(call, made.apply(x).longValue(), want);
            due(call + ", status()", x.status(), isFinding(want) ? -1000010 - want : status);
            dueAlike(call, x, played(status));
        }
    }

    private static void foretold(String call, Function<AdventStreets, Number> made) {
        AdventStreets x = played(0);
        long first = made.apply(x).longValue();
        due(call + ", BAD or STATE", first == BAD || first == STATE ? 1 : 0, 0);
        due(call + ", asked again", made.apply(x).longValue(), first);
        dueAlike(call, x, played(0));
    }

    private static void dueAlike(String call, AdventStreets x, AdventStreets twin) {
        List<Long> got = answers.apply(x);
        List<Long> due = answers.apply(twin);
        CHECK.holds("behind " + call + " all stays: " + due + ", not " + got, got.equals(due));
    }

    /** Some 200 answers, by which the objects are used up. */
    private static List<Long> answersOf(AdventStreets x) {
        List<Long> answers = new ArrayList<>();
        add(answers, x.fault());
        for (int i = 0; i < 7; i++) {
            add(answers, x.trace(i));
        }
        addStreet(answers, x);
        for (int row = 0; row < 4; row++) {
            add(answers, x.fits(0, row, 0, 1, 2), x.fits(0, row, 1, 1, 2), x.fits(0, row, 39, 1, 2));
        }
        for (int back = 0; back < 24; back++) {
            add(answers, x.undo(), x.count(2), x.count(6));
        }
        addStreet(answers, x);
        add(answers, x.restore(0), x.count(2), x.count(4), x.count(6), x.restore(1));
        Play.feed(x, "t2,2,2;");
        add(answers, x.count(8), x.street(), x.fault(), x.count(4), x.count(5), x.window(1, 0));
        for (int row = 0; row < 8; row++) {
            add(answers, x.drop(row));
        }
        return answers;
    }

    private static List<Long> fewerAnswersOf(AdventStreets x) {
        List<Long> answers = new ArrayList<>();
        addStreet(answers, x);
        add(answers, x.undo(), x.count(2), x.times(10), x.count(2), x.times(1));
        return answers;
    }

    private static void addStreet(List<Long> answers, AdventStreets x) {
        for (int what = 0; what <= 8; what++) {
            add(answers, x.count(what));
        }
        for (int w = 0; w < 5; w++) {
            for (int what = 0; what <= 4; what++) {
                add(answers, x.window(w, what));
            }
            add(answers, x.kind(w));
        }
    }

    private static void add(List<Long> answers, long... more) {
        Collections.addAll(answers, Arrays.stream(more).boxed().toArray(Long[]::new));
    }

    // ---- what is refused

    private static void badRows() {
        for (int no : new int[] {-1, 8, LOW, HIGH}) {
            refused("row(" + no + ",0,1)", BAD, x -> x.row(no, 0, 1));
            refused("set(" + no + ",0,1)", BAD, x -> x.set(no, 0, 1));
            refused("copy(" + no + ",0,0,0,1)", BAD, x -> x.copy(no, 0, 0, 0, 1));
            refused("copy(0,0," + no + ",0,1)", BAD, x -> x.copy(0, 0, no, 0, 1));
            refused("drop(" + no + ")", BAD, x -> x.drop(no));
            refused("fits(0," + no + ",0,1,0)", BAD, x -> x.fits(0, no, 0, 1, 0));
        }
        for (int no : new int[] {-1, 3, LOW, HIGH}) {
            refused("row(0," + no + ",1)", BAD, x -> x.row(0, no, 1));
        }
        refused("row(0,0,41)", BAD, x -> x.row(0, 0, 41));
        refused("row(0,0,HIGH)", BAD, x -> x.row(0, 0, HIGH));
    }

    private static void badWindows() {
        for (int no : new int[] {-1, 5, 9, LOW, HIGH}) {
            refused("open(" + no + ")", BAD, x -> x.open(no));
            refused("press(" + no + ")", BAD, x -> x.press(no));
            refused("glue(" + no + ",1)", BAD, x -> x.glue(no, 1));
            refused("trade(" + no + ",0)", BAD, x -> x.trade(no, 0));
            refused("trade(0," + no + ")", BAD, x -> x.trade(0, no));
            refused("window(" + no + ",0)", BAD, x -> x.window(no, 0));
            refused("ahead(" + no + ",1,0)", BAD, x -> x.ahead(no, 1, 0));
            refused("spots(" + no + ",0)", BAD, x -> x.spots(no, 0));
            refused("shut(" + no + ",1,0)", BAD, x -> x.shut(no, 1, 0));
            refused("trades(" + no + ",1,0)", BAD, x -> x.trades(no, 1, 0));
            refused("along(" + no + ",0)", BAD, x -> x.along(no, 0));
            refused("guess(" + no + ")", BAD, x -> x.guess(no));
            refused("fits(" + no + ",0,0,1,0)", BAD, x -> x.fits(no, 0, 0, 1, 0));
            refused("wind(" + no + ",1,1,0)", BAD, x -> x.wind(no, 1, 1, 0));
            refused("kind(" + no + ")", BAD, x -> x.kind(no));
            refused("as(" + no + ",0)", BAD, x -> x.as(no, 0));
            refused("ask(" + no + ",0)", BAD, x -> x.ask(no, 0));
        }
        refused("trade(1,1)", BAD, x -> x.trade(1, 1));
    }

    private static void badWhats() {
        refused("feed(-1)", BAD, x -> x.feed(-1));
        refused("feed(256)", BAD, x -> x.feed(256));
        refused("times(0)", BAD, x -> x.times(0));
        refused("times(25)", BAD, x -> x.times(25));
        refused("glue(0,0)", BAD, x -> x.glue(0, 0));
        refused("glue(0,10)", BAD, x -> x.glue(0, 10));
        refused("sight(-1)", BAD, x -> x.sight(-1));
        refused("sight(4)", BAD, x -> x.sight(4));
        refused("window(0,6)", BAD, x -> x.window(0, 6));
        refused("opens(-1)", BAD, x -> x.opens(-1));
        refused("opens(61)", BAD, x -> x.opens(61));
        refused("ahead(0,61,0)", BAD, x -> x.ahead(0, 61, 0));
        refused("ahead(0,0,2)", BAD, x -> x.ahead(0, 0, 2));
        refused("spots(0,10)", BAD, x -> x.spots(0, 10));
        refused("off(2)", BAD, x -> x.off(2));
        refused("shut(0,25,0)", BAD, x -> x.shut(0, 25, 0));
        refused("shut(0,1,2)", BAD, x -> x.shut(0, 1, 2));
        refused("trades(0,25,0)", BAD, x -> x.trades(0, 25, 0));
        refused("trades(0,1,2)", BAD, x -> x.trades(0, 1, 2));
        refused("along(0,2)", BAD, x -> x.along(0, 2));
        refused("alike(2)", BAD, x -> x.alike(2));
        refused("fits(0,0,0,0,0)", BAD, x -> x.fits(0, 0, 0, 0, 0));
        refused("fits(0,0,0,13,0)", BAD, x -> x.fits(0, 0, 0, 13, 0));
        refused("fits(0,0,0,1,4)", BAD, x -> x.fits(0, 0, 0, 1, 4));
        refused("wind(0,25,1,0)", BAD, x -> x.wind(0, 25, 1, 0));
        refused("wind(0,1,11,0)", BAD, x -> x.wind(0, 1, 11, 0));
        refused("wind(0,1,1,2)", BAD, x -> x.wind(0, 1, 1, 2));
        refused("drawn(61,1,0)", BAD, x -> x.drawn(61, 1, 0));
        refused("drawn(1,0,0)", BAD, x -> x.drawn(1, 0, 0));
        refused("drawn(1,1000000,0)", BAD, x -> x.drawn(1, 1000000, 0));
        refused("drawn(1,1,2)", BAD, x -> x.drawn(1, 1, 2));
        refused("image(2)", BAD, x -> x.image(2));
        refused("restore(-1)", BAD, x -> x.restore(-1));
        refused("as(0,6)", BAD, x -> x.as(0, 6));
        refused("ask(0,2)", BAD, x -> x.ask(0, 2));
        refused("count(9)", BAD, x -> x.count(9));
    }

    private static void foundOnes() {
        refused("row(0,0,-1)", SIZE, x -> x.row(0, 0, -1));
        refused("row(3,2,LOW)", SIZE, x -> x.row(3, 2, LOW));
        refused("set(3,0,1)", NULL, x -> x.set(3, 0, 1));
        refused("set(0,4,1)", PLACE, x -> x.set(0, 4, 1));
        refused("set(0,-1,1)", PLACE, x -> x.set(0, -1, 1));
        refused("copy(3,0,0,0,1)", NULL, x -> x.copy(3, 0, 0, 0, 1));
        refused("copy(0,0,3,0,1)", NULL, x -> x.copy(0, 0, 3, 0, 1));
        refused("copy(0,0,1,0,1)", STORE, x -> x.copy(0, 0, 1, 0, 1));
        refused("copy(0,0,0,1,4)", PLACE, x -> x.copy(0, 0, 0, 1, 4));
        refused("copy(0,1,0,0,4)", PLACE, x -> x.copy(0, 1, 0, 0, 4));
        refused("drop(3)", NULL, x -> x.drop(3));
        refused("fits(0,3,0,1,0)", NULL, x -> x.fits(0, 3, 0, 1, 0));
        refused("fits(0,0,3,2,0)", PLACE, x -> x.fits(0, 0, 3, 2, 0));
        refused("as(0,2)", KIND, x -> x.as(0, 2));
        refused("as(4,1)", KIND, x -> x.as(4, 1));
    }

    private static void stateOnes() {
        refused("open(2)", STATE, x -> x.open(2));
        refused("press(4)", STATE, x -> x.press(4));
        refused("restore(1)", STATE, x -> x.restore(1));
    }

    private static void fullOnes() {
        answers = RefusedTests::fewerAnswersOf;
        play = x -> {
            Play.read(x, "e5,1;f2,3,4;r3,0,9;");
            Play.turn(x, 9990);
        };
        refused("times(10)", FULL, x -> x.times(10));
        refused("times(24)", FULL, x -> x.times(24));
        refused("times(25)", BAD, x -> x.times(25));
        answers = RefusedTests::answersOf;
        play = x -> {
            Play.read(x, Play.FIVE);
            Play.feed(x, "e7,2;" + "t1,1,1;".repeat(17) + "t1,1,1");
        };
        refused("feed(59)", FULL, x -> x.feed(59));
        refused("feed(0)", FULL, x -> x.feed(0));
    }

    private static void streetless() {
        refused("times(1)", STATE, x -> x.times(1));
        refused("times(0)", STATE, x -> x.times(0));
        refused("sight(1)", STATE, x -> x.sight(1));
        refused("undo()", STATE, AdventStreets::undo);
        refused("opens(0)", STATE, x -> x.opens(0));
        refused("off(0)", STATE, x -> x.off(0));
        refused("alike(0)", STATE, x -> x.alike(0));
        refused("drawn(1,1,0)", STATE, x -> x.drawn(1, 1, 0));
        refused("image(0)", STATE, x -> x.image(0));
        refused("restore(0)", STATE, x -> x.restore(0));
        refused("open(0)", BAD, x -> x.open(0));
        refused("press(0)", BAD, x -> x.press(0));
        refused("glue(0,1)", BAD, x -> x.glue(0, 1));
        refused("trade(0,1)", BAD, x -> x.trade(0, 1));
        refused("window(0,0)", BAD, x -> x.window(0, 0));
        refused("ahead(0,0,0)", BAD, x -> x.ahead(0, 0, 0));
        refused("spots(0,0)", BAD, x -> x.spots(0, 0));
        refused("shut(0,1,0)", BAD, x -> x.shut(0, 1, 0));
        refused("trades(0,1,0)", BAD, x -> x.trades(0, 1, 0));
        refused("along(0,0)", BAD, x -> x.along(0, 0));
        refused("guess(0)", BAD, x -> x.guess(0));
        refused("fits(0,0,0,1,0)", BAD, x -> x.fits(0, 0, 0, 1, 0));
        refused("wind(0,0,0,0)", BAD, x -> x.wind(0, 0, 0, 0));
        refused("kind(0)", BAD, x -> x.kind(0));
        refused("as(0,0)", BAD, x -> x.as(0, 0));
        refused("ask(0,0)", BAD, x -> x.ask(0, 0));
    }

    /** Those that only tell something: nothing changes by them either. */
    private static void foretoldOnes() {
        foretold("opens(60)", x -> x.opens(60));
        foretold("ahead(1,60,0)", x -> x.ahead(1, 60, 0));
        foretold("ahead(1,60,1)", x -> x.ahead(1, 60, 1));
        foretold("off(0)", x -> x.off(0));
        foretold("off(1)", x -> x.off(1));
        foretold("alike(1)", x -> x.alike(1));
        foretold("drawn(60,7,0)", x -> x.drawn(60, 7, 0));
        foretold("drawn(60,7,1)", x -> x.drawn(60, 7, 1));
        for (int w = 0; w < 5; w++) {
            int window = w;
            foretold("spots(" + w + ",3)", x -> x.spots(window, 3));
            foretold("shut(" + w + ",24,0)", x -> x.shut(window, 24, 0));
            foretold("trades(" + w + ",24,0)", x -> x.trades(window, 24, 0));
            foretold("trades(" + w + ",24,1)", x -> x.trades(window, 24, 1));
            foretold("along(" + w + ",0)", x -> x.along(window, 0));
            foretold("guess(" + w + ")", x -> x.guess(window));
            foretold("wind(" + w + ",24,3,0)", x -> x.wind(window, 24, 3, 0));
            foretold("wind(" + w + ",2,3,1)", x -> x.wind(window, 2, 3, 1));
            foretold("as(" + w + ",0)", x -> x.as(window, 0));
            foretold("kind(" + w + ")", x -> x.kind(window));
            for (int what = 0; what < 4; what++) {
                int asked = what;
                foretold("fits(" + w + ",2,0,12," + what + ")", x -> x.fits(window, 2, 0, 12, asked));
                foretold("window(" + w + "," + what + ")", x -> x.window(window, asked));
            }
        }
        foretold("window(0,5)", x -> x.window(0, 5));
        foretold("status()", AdventStreets::status);
        foretold("fault()", AdventStreets::fault);
        foretold("trace(2)", x -> x.trace(2));
        foretold("count(3)", x -> x.count(3));
    }
}
