import java.util.Random;

/** Random runs of calls, each answer held against the model's; the runs are the same every time. */
public final class ModelTests {
    private static final int RUNS = 400;
    private static final int CALLS = 300;
    private static final int[] WILD = {-1, Integer.MIN_VALUE, Integer.MAX_VALUE, 10, 11, 24, 25, 60, 61, 1000000};

    private final Check check;
    private final Random random;
    private final AdventStreets x = new AdventStreets();
    private final Model model = new Model();
    private final int run;
    private int windows = 10;

    private ModelTests(Check check, int run) {
        this.check = check;
        this.run = run;
        this.random = new Random(run);
    }

    public static void main(String[] args) {
        Check check = new Check("ModelTests");
        for (int run = 0; run < RUNS && check.wrong() < 20; run++) {
            new ModelTests(check, run).play();
        }
        check.end();
    }

    private void play() {
        if (random.nextInt(10) > 0) {
            feedText(text());
            street();
        }
        for (int call = 0; call < CALLS; call++) {
            step();
        }
        lookAtAll();
    }

    private void due(String call, long got, long want) {
        check.due("run " + run + ": " + call, got, want);
    }

    /** A number of a range, now and then one outside of it. */
    private int of(int least, int most) {
        int luck = random.nextInt(60);
        if (luck == 0) {
            return WILD[random.nextInt(WILD.length)];
        }
        if (luck == 1) {
            return random.nextBoolean() ? least - 1 : most + 1;
        }
        return least + random.nextInt(most - least + 1);
    }

    private int aWindow() {
        return of(0, windows - 1);
    }

    private String text() {
        int eve = random.nextInt(3) == 0 ? 2 + random.nextInt(23) : 2 + random.nextInt(7);
        StringBuilder text = new StringBuilder();
        text.append("e").append(figures(eve)).append(",").append(figures(random.nextInt(4))).append(";");
        String sorts = new String[] {"fdctr", "rrrct", "rf", "ccctr", "fd", "r"}[random.nextInt(6)];
        int pictures = 1 + random.nextInt(10);
        int count = random.nextInt(20) == 0 ? random.nextInt(13) : 2 + random.nextInt(9);
        int glues = 1 + random.nextInt(10);
        for (int w = 0; w < count; w++) {
            int day = random.nextInt(8) == 0 ? 1 + random.nextInt(24) : 1 + random.nextInt(Math.min(24, eve + 1));
            text.append(sorts.charAt(random.nextInt(sorts.length()))).append(figures(day));
            text.append(",").append(figures(random.nextInt(pictures)));
            text.append(",").append(figures(random.nextInt(glues))).append(";");
        }
        return random.nextInt(4) == 0 ? spoilt(text) : text.toString();
    }

    private String figures(int v) {
        return v < 10 && random.nextInt(12) == 0 ? "0" + v : String.valueOf(v);
    }

    private String spoilt(StringBuilder text) {
        int at = random.nextInt(text.length());
        String letters = "efdctrxz,;0123456789 A\u00e4";
        char letter = letters.charAt(random.nextInt(letters.length()));
        switch (random.nextInt(4)) {
            case 0:
                text.setCharAt(at, letter);
                break;
            case 1:
                text.insert(at, letter);
                break;
            case 2:
                text.deleteCharAt(at);
                break;
            default:
                text.setLength(at);
                break;
        }
        return text.toString();
    }

    private void feedText(String text) {
        for (int i = 0; i < text.length(); i++) {
            int letter = text.charAt(i);
            due("feed(" + letter + ")", x.feed(letter), model.feed(letter));
        }
    }

    private void street() {
        due("street()", x.street(), model.street());
        windows = Math.max(2, model.count(1));
    }

    private void step() {
        int luck = random.nextInt(100);
        if (luck < 20) {
            stepRows();
        } else if (luck < 50) {
            stepActs();
        } else if (luck < 85) {
            stepForetold();
        } else {
            stepAsked();
        }
        due("status()", x.status(), model.status());
    }

    private void stepRows() {
        int a = random.nextInt(40) == 0 ? of(0, 7) : random.nextInt(3);
        int b = random.nextInt(40) == 0 ? of(0, 7) : random.nextInt(3);
        int i = of(0, 12);
        int j = of(0, 12);
        int n = of(0, 12);
        int v = random.nextInt(3) == 0 ? random.nextInt() : random.nextInt(2);
        int lane = of(0, 2);
        int length = of(0, random.nextInt(5) == 0 ? 40 : 14);
        switch (random.nextInt(8)) {
            case 0:
            case 1:
                due("row(" + a + "," + lane + "," + length + ")", x.row(a, lane, length), model.row(a, lane, length));
                break;
            case 2:
                due("copy(" + a + "," + i + "," + b + "," + j + "," + n + ")",
                        x.copy(a, i, b, j, n), model.copy(a, i, b, j, n));
                break;
            case 3:
                if (random.nextInt(4) == 0) {
                    due("drop(" + a + ")", x.drop(a), model.drop(a));
                }
                break;
            default:
                due("set(" + a + "," + i + "," + v + ")", x.set(a, i, v), model.set(a, i, v));
                break;
        }
    }

    private void stepActs() {
        int w = aWindow();
        int other = aWindow();
        int n = of(1, random.nextInt(4) == 0 ? 24 : 4);
        switch (random.nextInt(12)) {
            case 0:
            case 1:
            case 2:
                due("times(" + n + ")", x.times(n), model.times(n));
                break;
            case 3:
                due("open(" + w + ")", x.open(w), model.open(w));
                break;
            case 4:
                due("press(" + w + ")", x.press(w), model.press(w));
                break;
            case 5:
                due("glue(" + w + "," + n + ")", x.glue(w, n), model.glue(w, n));
                break;
            case 6:
                due("trade(" + w + "," + other + ")", x.trade(w, other), model.trade(w, other));
                break;
            case 7:
                int v = of(0, 3);
                due("sight(" + v + ")", x.sight(v), model.sight(v));
                break;
            case 8:
            case 9:
                due("undo()", x.undo(), model.undo());
                break;
            default:
                stepStreets();
                break;
        }
    }

    private void stepStreets() {
        int luck = random.nextInt(20);
        if (luck == 0) {
            feedText(text());
            street();
        } else if (luck < 3) {
            int letter = of(0, 255);
            due("feed(" + letter + ")", x.feed(letter), model.feed(letter));
        } else if (luck < 6) {
            int k = of(0, 1);
            due("image(" + k + ")", x.image(k), model.image(k));
        } else if (luck < 8) {
            int k = of(0, 1);
            due("restore(" + k + ")", x.restore(k), model.restore(k));
            windows = Math.max(2, model.count(1));
        } else {
            int w = aWindow();
            int what = of(0, 5);
            due("window(" + w + "," + what + ")", x.window(w, what), model.window(w, what));
        }
    }

    private void stepForetold() {
        int w = aWindow();
        int what = of(0, 1);
        int n = of(1, 24);
        int d = of(0, 60);
        switch (random.nextInt(12)) {
            case 0:
                due("opens(" + d + ")", x.opens(d), model.opens(d));
                break;
            case 1:
                due("ahead(" + w + "," + d + "," + what + ")", x.ahead(w, d, what), model.ahead(w, d, what));
                break;
            case 2:
                int picture = of(0, 9);
                due("spots(" + w + "," + picture + ")", x.spots(w, picture), model.spots(w, picture));
                break;
            case 3:
                due("off(" + what + ")", x.off(what), model.off(what));
                break;
            case 4:
                due("shut(" + w + "," + n + "," + what + ")", x.shut(w, n, what), model.shut(w, n, what));
                break;
            case 5:
                due("trades(" + w + "," + n + "," + what + ")", x.trades(w, n, what), model.trades(w, n, what));
                break;
            case 6:
                due("along(" + w + "," + what + ")", x.along(w, what), model.along(w, what));
                break;
            case 7:
                due("alike(" + what + ")", x.alike(what), model.alike(what));
                break;
            case 8:
                due("guess(" + w + ")", x.guess(w), model.guess(w));
                break;
            case 9:
                stepFits(w);
                break;
            case 10:
                int turns = of(0, 24);
                int c = of(0, 10);
                due("wind(" + w + "," + turns + "," + c + "," + what + ")",
                        x.wind(w, turns, c, what), model.wind(w, turns, c, what));
                break;
            default:
                int seed = of(1, 999999);
                due("drawn(" + d + "," + seed + "," + what + ")", x.drawn(d, seed, what), model.drawn(d, seed, what));
                break;
        }
    }

    /** Half of the time the ROW tells first what will come, so that something fits. */
    private void stepFits(int w) {
        int n = of(1, 12);
        int i = of(0, 4);
        int row = random.nextInt(20) == 0 ? of(0, 7) : random.nextInt(3);
        if (random.nextBoolean() && model.count(1) > 0 && n > 0 && n <= 12) {
            due("row(7,0,16)", x.row(7, 0, 16), model.row(7, 0, 16));
            row = 7;
            for (int t = 0; t < n && i >= 0 && i + t < 16; t++) {
                int open = model.opens(t + 1) >> (w & 15) & 1;
                due("set(7," + (i + t) + "," + open + ")", x.set(7, i + t, open), model.set(7, i + t, open));
            }
        }
        for (int what = 0; what < 4; what++) {
            due("fits(" + w + "," + row + "," + i + "," + n + "," + what + ")",
                    x.fits(w, row, i, n, what), model.fits(w, row, i, n, what));
        }
        int wild = of(0, 3);
        due("fits(" + w + "," + row + "," + i + "," + n + "," + wild + ")",
                x.fits(w, row, i, n, wild), model.fits(w, row, i, n, wild));
    }

    private void stepAsked() {
        int w = aWindow();
        int what = of(0, 1);
        switch (random.nextInt(5)) {
            case 0:
                due("kind(" + w + ")", x.kind(w), model.kind(w));
                break;
            case 1:
                int kind = of(0, 5);
                due("as(" + w + "," + kind + ")", x.as(w, kind), model.as(w, kind));
                break;
            case 2:
                due("ask(" + w + "," + what + ")", x.ask(w, what), model.ask(w, what));
                break;
            case 3:
                int i = of(0, 7);
                due("trace(" + i + ")", x.trace(i), model.trace(i));
                break;
            default:
                int which = of(0, 8);
                due("count(" + which + ")", x.count(which), model.count(which));
                break;
        }
        due("fault()", x.fault(), model.fault());
    }

    private void lookAtAll() {
        for (int what = 0; what <= 8; what++) {
            due("count(" + what + ")", x.count(what), model.count(what));
        }
        for (int w = 0; w < 10; w++) {
            for (int what = 0; what <= 5; what++) {
                due("window(" + w + "," + what + ")", x.window(w, what), model.window(w, what));
            }
        }
    }
}
