import java.math.BigInteger;
import java.util.ArrayDeque;
import java.util.ArrayList;
import java.util.Arrays;
import java.util.Deque;
import java.util.List;
import java.util.Set;
import java.util.TreeSet;

/**
 * The document once more, slow and plain: windows are objects of a tree of classes, streets are
 * copied whole, every choice is tried. The tests hold AdventStreets against it.
 */
final class Model {
    static final int NONE = -1000000, BAD = -1000001, STATE = -1000002, FULL = -1000003;

    // ---- windows

    abstract static class Window implements Cloneable {
        int number;
        int day;
        int picture;
        int glue;
        boolean open;
        Set<Integer> seen = new TreeSet<>();
        List<Integer> trace;

        abstract int kind();

        abstract boolean opensOn(int date, List<Window> street);

        int size() {
            trace.add(10);
            return picture;
        }

        int mark() {
            trace.add(20);
            return number;
        }

        Window twin() {
            try {
                Window twin = (Window) clone();
                twin.seen = new TreeSet<>(seen);
                return twin;
            } catch (CloneNotSupportedException e) {
                throw new IllegalStateException(e);
            }
        }
    }

    static class Flap extends Window {
        int kind() {
            return 1;
        }

        boolean opensOn(int date, List<Window> street) {
            return date == day;
        }

        int size() {
            trace.add(11);
            int given = super.size();
            return given + mark();
        }

        int mark() {
            trace.add(21);
            return super.mark() + glue;
        }
    }

    static final class Double extends Flap {
        int kind() {
            return 2;
        }

        boolean opensOn(int date, List<Window> street) {
            return super.opensOn(date, street) || date - 1 == day;
        }

        int size() {
            trace.add(12);
            return 0 - super.size();
        }

        int mark() {
            trace.add(24);
            return 2 * super.mark();
        }
    }

    static final class Card extends Flap {
        int kind() {
            return 3;
        }

        boolean opensOn(int date, List<Window> street) {
            return super.opensOn(date, street) || glue == 0;
        }

        int mark() {
            trace.add(22);
            return super.mark() - 1000;
        }
    }

    static class Tight extends Window {
        int kind() {
            return 4;
        }

        boolean opensOn(int date, List<Window> street) {
            return date == day && glue <= 4;
        }

        int size() {
            trace.add(13);
            return super.size() - 100;
        }

        int mark() {
            trace.add(23);
            int given = super.mark();
            return given - size();
        }
    }

    static final class Ruler extends Tight {
        int kind() {
            return 5;
        }

        boolean opensOn(int date, List<Window> street) {
            for (Window other : street) {
                if (Math.abs(other.number - number) == 1 && other.open) {
                    return true;
                }
            }
            return super.opensOn(date, street);
        }

        int size() {
            trace.add(14);
            return 2 * super.size();
        }
    }

    static Window ofKind(int kind) {
        switch (kind) {
            case 1:
                return new Flap();
            case 2:
                return new Double();
            case 3:
                return new Card();
            case 4:
                return new Tight();
            default:
                return new Ruler();
        }
    }

    static Window made(int kind, int number, int day, int picture, int glue) {
        Window window = ofKind(kind);
        window.number = number;
        window.day = day;
        window.picture = picture;
        window.glue = glue;
        return window;
    }

    // ---- streets

    static final class Street {
        int eve;
        int sight;
        int time;
        List<Window> windows = new ArrayList<>();

        Street twin() {
            Street twin = new Street();
            twin.eve = eve;
            twin.sight = sight;
            twin.time = time;
            for (Window window : windows) {
                twin.windows.add(window.twin());
            }
            return twin;
        }

        int date() {
            return time % eve + 1;
        }

        void turn() {
            int date = date();
            List<Window> opening = new ArrayList<>();
            for (Window window : windows) {
                if (!window.open && window.opensOn(date, windows)) {
                    opening.add(window);
                }
            }
            for (Window window : opening) {
                window.open = true;
            }
            for (Window looker : windows) {
                for (Window other : windows) {
                    int apart = Math.abs(looker.number - other.number);
                    if (other != looker && other.open && apart <= sight) {
                        looker.seen.add(other.picture);
                    }
                }
            }
            for (Window window : windows) {
                if (date == eve && window.open) {
                    window.open = false;
                    window.glue = Math.max(0, window.glue - 1);
                } else if (date != eve && opening.contains(window)) {
                    window.glue = Math.max(0, window.glue - 1);
                }
            }
            time++;
        }

        Street turned(int n) {
            Street twin = twin();
            for (int t = 0; t < n; t++) {
                twin.turn();
            }
            return twin;
        }

        int opened() {
            int bits = 0;
            for (Window window : windows) {
                bits |= window.open ? 1 << window.number : 0;
            }
            return bits;
        }

        void tradeDays(int a, int b) {
            int day = windows.get(a).day;
            windows.get(a).day = windows.get(b).day;
            windows.get(b).day = day;
        }
    }

    static int bits(Iterable<Integer> numbers) {
        int bits = 0;
        for (int number : numbers) {
            bits |= 1 << number;
        }
        return bits;
    }

    // ---- state

    private Street street;
    private Deque<Street> acts = new ArrayDeque<>();
    private final Street[] images = new Street[2];
    private final long[][] rows = new long[8][];
    private final int[] lanes = new int[8];
    private final List<Integer> tape = new ArrayList<>();
    private List<Integer> trace = new ArrayList<>();
    private int fault;
    private int status;

    private boolean is(int v, int least, int most) {
        return least <= v && v <= most;
    }

    private boolean there(int window) {
        return street != null && is(window, 0, street.windows.size() - 1);
    }

    private int found(int number) {
        status = number;
        return -1000010 - number;
    }

    private int fine(int answer) {
        status = 0;
        return answer;
    }

    private void act() {
        acts.addLast(street.twin());
        if (acts.size() > 24) {
            acts.removeFirst();
        }
    }

    // ---- rows

    int row(int row, int lane, int n) {
        if (!is(row, 0, 7) || !is(lane, 0, 2) || n > 40) {
            return BAD;
        }
        if (n < 0) {
            return found(4);
        }
        rows[row] = new long[n];
        lanes[row] = lane;
        return fine(n);
    }

    int set(int row, int i, int v) {
        if (!is(row, 0, 7)) {
            return BAD;
        }
        if (rows[row] == null) {
            return found(1);
        }
        if (!is(i, 0, rows[row].length - 1)) {
            return found(2);
        }
        long modulus = lanes[row] == 0 ? 1L << 8 : lanes[row] == 1 ? 1L << 16 : 1L << 32;
        long low = Math.floorMod((long) v, modulus);
        rows[row][i] = low >= modulus / 2 ? low - modulus : low;
        return fine((int) rows[row][i]);
    }

    int copy(int a, int i, int b, int j, int n) {
        if (!is(a, 0, 7) || !is(b, 0, 7)) {
            return BAD;
        }
        if (rows[a] == null || rows[b] == null) {
            return found(1);
        }
        if (lanes[a] != lanes[b]) {
            return found(5);
        }
        if (i < 0 || j < 0 || n < 0 || (long) i + n > rows[a].length || (long) j + n > rows[b].length) {
            return found(2);
        }
        long[] were = rows[a].clone();
        for (int k = 0; k < n; k++) {
            rows[b][j + k] = were[i + k];
        }
        return fine(n);
    }

    int drop(int row) {
        if (!is(row, 0, 7)) {
            return BAD;
        }
        if (rows[row] == null) {
            return found(1);
        }
        int had = rows[row].length;
        rows[row] = null;
        return fine(had);
    }

    // ---- the text

    int feed(int letter) {
        if (!is(letter, 0, 255)) {
            return BAD;
        }
        if (tape.size() >= 130) {
            return FULL;
        }
        tape.add(letter);
        return tape.size();
    }

    private static final class Token {
        int at;
        char kind;
        int value;
    }

    /** Kinds: a letter or a sign for itself, '0' a number, '?' none. */
    private List<Token> tokens() {
        List<Token> tokens = new ArrayList<>();
        int at = 0;
        while (at < tape.size()) {
            Token token = new Token();
            token.at = at;
            int c = tape.get(at);
            if (c >= '0' && c <= '9') {
                String figures = "";
                while (at < tape.size() && tape.get(at) >= '0' && tape.get(at) <= '9') {
                    figures += (char) (int) tape.get(at++);
                }
                token.kind = figures.length() > 2 ? '?' : '0';
                token.value = figures.length() > 2 ? 0 : Integer.parseInt(figures);
            } else {
                token.kind = c >= 'a' && c <= 'z' || c == ',' || c == ';' ? (char) c : '?';
                at++;
            }
            tokens.add(token);
        }
        return tokens;
    }

    int street() {
        String law = "e0,0;";
        String window = "S0,0,0;";
        int[][] lawRanges = {{}, {2, 24}, {}, {0, 3}, {}};
        int[][] windowRanges = {{}, {1, 24}, {}, {0, 9}, {}, {0, 9}, {}};
        List<Token> tokens = tokens();
        int end = tape.size();
        tape.clear();
        for (int i = 0; i < tokens.size(); i++) {
            Token token = tokens.get(i);
            boolean inLaw = i < law.length();
            int step = inLaw ? i : (i - law.length()) % window.length();
            int nth = inLaw ? -1 : (i - law.length()) / window.length();
            char due = inLaw ? law.charAt(step) : window.charAt(step);
            boolean stands = due == 'S' ? "fdctr".indexOf(token.kind) >= 0 : token.kind == due;
            if (!stands) {
                return faulty(1, token.at);
            }
            int[] range = inLaw ? lawRanges[step] : windowRanges[step];
            if (due == '0' && !is(token.value, range[0], range[1])) {
                return faulty(2, token.at);
            }
            if (nth >= 10) {
                return faulty(3, token.at);
            }
        }
        int behindLaw = tokens.size() - law.length();
        if (behindLaw < 2 * window.length() || behindLaw % window.length() != 0) {
            return faulty(1, end);
        }
        Street read = new Street();
        read.eve = tokens.get(1).value;
        read.sight = tokens.get(3).value;
        for (int i = law.length(); i < tokens.size(); i += window.length()) {
            int kind = "fdctr".indexOf(tokens.get(i).kind) + 1;
            read.windows.add(made(kind, read.windows.size(), tokens.get(i + 1).value,
                    tokens.get(i + 3).value, tokens.get(i + 5).value));
        }
        street = read;
        acts.clear();
        return read.windows.size();
    }

    private int faulty(int number, int at) {
        fault = number;
        return -1000100 - at;
    }

    int fault() {
        return fault;
    }

    // ---- acts

    int times(int n) {
        if (street == null) {
            return STATE;
        }
        if (!is(n, 1, 24)) {
            return BAD;
        }
        if (street.time + n > 9999) {
            return FULL;
        }
        for (int t = 0; t < n; t++) {
            act();
            street.turn();
        }
        return street.opened();
    }

    int open(int window) {
        if (!there(window)) {
            return BAD;
        }
        if (street.windows.get(window).open) {
            return STATE;
        }
        act();
        street.windows.get(window).open = true;
        return street.windows.get(window).picture;
    }

    int press(int window) {
        if (!there(window)) {
            return BAD;
        }
        if (!street.windows.get(window).open) {
            return STATE;
        }
        act();
        street.windows.get(window).open = false;
        return street.windows.get(window).glue;
    }

    int glue(int window, int n) {
        if (!there(window) || !is(n, 1, 9)) {
            return BAD;
        }
        act();
        Window glued = street.windows.get(window);
        glued.glue += n;
        if (glued.glue > 9) {
            glued.glue = 9;
        }
        return glued.glue;
    }

    int trade(int one, int other) {
        if (!there(one) || !there(other) || one == other) {
            return BAD;
        }
        act();
        street.tradeDays(one, other);
        return street.windows.get(one).day;
    }

    int sight(int v) {
        if (street == null) {
            return STATE;
        }
        if (!is(v, 0, 3)) {
            return BAD;
        }
        act();
        int was = street.sight;
        street.sight = v;
        return was;
    }

    int undo() {
        if (acts.isEmpty()) {
            return STATE;
        }
        street = acts.removeLast();
        return acts.size();
    }

    int window(int window, int what) {
        if (!there(window) || !is(what, 0, 5)) {
            return BAD;
        }
        Window asked = street.windows.get(window);
        int[] answers = {asked.day, asked.picture, asked.glue, asked.open ? 1 : 0, bits(asked.seen),
            asked.opensOn(street.date(), street.windows) ? 1 : 0};
        return answers[what];
    }

    // ---- foretold

    int opens(int d) {
        if (street == null) {
            return STATE;
        }
        return is(d, 0, 60) ? street.turned(d).opened() : BAD;
    }

    int ahead(int window, int d, int what) {
        if (!there(window) || !is(d, 0, 60) || !is(what, 0, 1)) {
            return BAD;
        }
        Window then = street.turned(d).windows.get(window);
        return what == 0 ? then.glue : bits(then.seen);
    }

    int spots(int window, int picture) {
        if (!there(window) || !is(picture, 0, 9)) {
            return BAD;
        }
        for (int d = 0; d <= 60; d++) {
            if (street.turned(d).windows.get(window).seen.contains(picture)) {
                return d;
            }
        }
        return NONE;
    }

    int off(int what) {
        if (street == null) {
            return STATE;
        }
        if (!is(what, 0, 1)) {
            return BAD;
        }
        for (int d = 0; d <= 60; d++) {
            for (Window window : street.turned(d).windows) {
                if (window.glue == 0) {
                    return what == 0 ? window.number : d;
                }
            }
        }
        return NONE;
    }

    int shut(int window, int n, int what) {
        if (!there(window) || !is(n, 1, 24) || !is(what, 0, 1)) {
            return BAD;
        }
        if (street.windows.get(window).open) {
            return NONE;
        }
        for (int size = 0; size <= street.windows.size(); size++) {
            for (int some = 0; some < 1 << street.windows.size(); some++) {
                if (Integer.bitCount(some) == size && keepsShut(window, n, some)) {
                    return what == 0 ? size : some;
                }
            }
        }
        return NONE;
    }

    private boolean keepsShut(int window, int n, int some) {
        Street trial = street.twin();
        for (Window glued : trial.windows) {
            if ((some & 1 << glued.number) != 0) {
                glued.glue = 9;
            }
        }
        for (int t = 0; t < n; t++) {
            Window minded = trial.windows.get(window);
            if (!minded.open && minded.opensOn(trial.date(), trial.windows)) {
                return false;
            }
            trial.turn();
        }
        return true;
    }

    int trades(int window, int n, int what) {
        if (!there(window) || !is(n, 1, 24) || !is(what, 0, 1)) {
            return BAD;
        }
        int most = -1;
        int pair = -1;
        for (int b = street.windows.size() - 1; b > 0; b--) {
            for (int a = b - 1; a >= 0; a--) {
                Street trial = street.twin();
                trial.tradeDays(a, b);
                int seen = trial.turned(n).windows.get(window).seen.size();
                if (seen > most || seen == most && 10 * a + b < pair) {
                    most = seen;
                    pair = 10 * a + b;
                }
            }
        }
        return what == 0 ? pair : most;
    }

    int along(int window, int what) {
        if (!there(window) || !is(what, 0, 1)) {
            return BAD;
        }
        int[] heard = new int[street.windows.size()];
        Arrays.fill(heard, -1);
        heard[window] = 0;
        Deque<Integer> tellers = new ArrayDeque<>();
        tellers.add(window);
        int last = 0;
        int know = 0;
        while (!tellers.isEmpty()) {
            int teller = tellers.removeFirst();
            know++;
            last = Math.max(last, heard[teller]);
            for (Window other : street.windows) {
                int to = other.number;
                if (heard[to] < 0 && !other.open && Math.abs(to - teller) <= street.sight) {
                    heard[to] = heard[teller] + 1;
                    tellers.addLast(to);
                }
            }
        }
        return what == 0 ? last : know;
    }

    int alike(int what) {
        if (street == null) {
            return STATE;
        }
        if (!is(what, 0, 1)) {
            return BAD;
        }
        List<Integer> pairs = new ArrayList<>();
        for (Window a : street.windows) {
            for (Window b : street.windows) {
                if (a.number < b.number && a.picture == b.picture) {
                    pairs.add(10 * a.number + b.number);
                }
            }
        }
        return what == 0 ? pairs.size() : pairs.isEmpty() ? NONE : pairs.get(0);
    }

    int guess(int window) {
        if (!there(window)) {
            return BAD;
        }
        Set<Integer> unseen = new TreeSet<>();
        for (Window other : street.windows) {
            unseen.add(other.picture);
        }
        unseen.removeAll(street.windows.get(window).seen);
        return bits(unseen);
    }

    int fits(int window, int row, int i, int n, int what) {
        if (!there(window) || !is(row, 0, 7) || !is(n, 1, 12) || !is(what, 0, 3)) {
            return BAD;
        }
        if (rows[row] == null) {
            return found(1);
        }
        if (i < 0 || (long) i + n > rows[row].length) {
            return found(2);
        }
        int[][] ranges = {{1, 5}, {1, 24}, {0, 9}, {2, 24}};
        List<Integer> fitting = new ArrayList<>();
        for (int v = ranges[what][0]; v <= ranges[what][1]; v++) {
            Street trial = street.twin();
            Window told = trial.windows.get(window);
            if (what == 0) {
                Window other = made(v, window, told.day, told.picture, told.glue);
                other.open = told.open;
                trial.windows.set(window, other);
            } else if (what == 1) {
                told.day = v;
            } else if (what == 2) {
                told.glue = v;
            } else {
                trial.eve = v;
            }
            boolean fit = true;
            for (int t = 1; t <= n; t++) {
                long is = trial.turned(t).windows.get(window).open ? 1 : 0;
                fit &= rows[row][i + t - 1] == is;
            }
            if (fit) {
                fitting.add(v);
            }
        }
        return fine(bits(fitting));
    }

    long wind(int window, int n, int c, int what) {
        if (!there(window) || !is(n, 0, 24) || !is(c, 0, 10) || !is(what, 0, 1)) {
            return BAD;
        }
        BigInteger above = BigInteger.ZERO;
        BigInteger below = BigInteger.ONE;
        for (Window each : street.windows) {
            below = each.open ? below : below.multiply(BigInteger.TEN);
        }
        for (int lifted = 0; lifted < 1 << street.windows.size(); lifted++) {
            if ((lifted & street.opened()) != 0) {
                continue;
            }
            Street trial = street.twin();
            BigInteger ways = BigInteger.ONE;
            for (Window each : trial.windows) {
                if (!each.open) {
                    each.open = (lifted & 1 << each.number) != 0;
                    ways = ways.multiply(BigInteger.valueOf(each.open ? c : 10 - c));
                }
            }
            if (ways.signum() != 0 && trial.turned(n).windows.get(window).open) {
                above = above.add(ways);
            }
        }
        BigInteger common = above.gcd(below);
        return (what == 0 ? above : below).divide(common).longValueExact();
    }

    int drawn(int n, int seed, int what) {
        if (street == null) {
            return STATE;
        }
        if (!is(n, 0, 60) || !is(seed, 1, 999999) || !is(what, 0, 1)) {
            return BAD;
        }
        Street trial = street.twin();
        BigInteger x = BigInteger.valueOf(seed);
        for (int t = 0; t < n; t++) {
            x = x.multiply(BigInteger.valueOf(16807)).mod(BigInteger.valueOf(2147483647));
            long drawn = x.longValueExact();
            Window window = trial.windows.get((int) (drawn % trial.windows.size()));
            if (drawn % 3 == 0) {
                window.open = !window.open;
            } else {
                window.glue = (int) (drawn % 10);
            }
            trial.turn();
        }
        Set<Integer> seen = new TreeSet<>();
        for (Window window : trial.windows) {
            seen.addAll(window.seen);
        }
        return what == 0 ? Integer.bitCount(trial.opened()) : seen.size();
    }

    int image(int k) {
        if (!is(k, 0, 1)) {
            return BAD;
        }
        if (street == null) {
            return STATE;
        }
        images[k] = street.twin();
        return 1;
    }

    int restore(int k) {
        if (!is(k, 0, 1)) {
            return BAD;
        }
        if (images[k] == null) {
            return STATE;
        }
        street = images[k].twin();
        acts.clear();
        return 1;
    }

    // ---- asked

    int kind(int window) {
        return there(window) ? street.windows.get(window).kind() : BAD;
    }

    int as(int window, int kind) {
        if (!there(window) || !is(kind, 0, 5)) {
            return BAD;
        }
        Window asked = street.windows.get(window);
        Class<?>[] kinds = {Window.class, Flap.class, Double.class, Card.class, Tight.class, Ruler.class};
        return kinds[kind].isInstance(asked) ? fine(window) : found(3);
    }

    int ask(int window, int what) {
        if (!there(window) || !is(what, 0, 1)) {
            return BAD;
        }
        trace = new ArrayList<>();
        Window asked = street.windows.get(window);
        asked.trace = trace;
        return what == 0 ? asked.size() : asked.mark();
    }

    int trace(int i) {
        return is(i, 0, Math.min(16, trace.size()) - 1) ? trace.get(i) : NONE;
    }

    int count(int what) {
        if (!is(what, 0, 8)) {
            return BAD;
        }
        int present = 0;
        for (long[] row : rows) {
            present += row == null ? 0 : 1;
        }
        boolean none = street == null;
        int[] counts = {present, none ? 0 : street.windows.size(), none ? 0 : street.time,
            none ? 0 : street.date(), none ? 0 : street.eve, none ? 0 : street.sight,
            none ? 0 : street.opened(), acts.size(), tape.size()};
        return counts[what];
    }

    int status() {
        return status;
    }
}
