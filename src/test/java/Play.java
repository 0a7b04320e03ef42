/** What the tests do with an object to bring it where they want it. */
final class Play {
    /** One window of each kind: f d c t r, EVE 5, SIGHT 1. */
    static final String FIVE = "e5,1;f2,3,4;d2,1,2;c4,3,1;t1,7,4;r3,0,9;";

    private Play() {
    }

    static AdventStreets street(String text) {
        AdventStreets x = new AdventStreets();
        read(x, text);
        return x;
    }

    static int read(AdventStreets x, String text) {
        feed(x, text);
        return x.street();
    }

    static void feed(AdventStreets x, String text) {
        for (int i = 0; i < text.length(); i++) {
            x.feed(text.charAt(i));
        }
    }

    /** A ROW of bytes with these ITEMS. */
    static void tell(AdventStreets x, int row, int... items) {
        x.row(row, 0, items.length);
        for (int i = 0; i < items.length; i++) {
            x.set(row, i, items[i]);
        }
    }

    /** A law and ten times the same window. */
    static String ten(String law, String window) {
        return law + window.repeat(10);
    }

    static AdventStreets turned(String text, int turns) {
        AdventStreets x = street(text);
        turn(x, turns);
        return x;
    }

    static void turn(AdventStreets x, int turns) {
        for (int left = turns; left > 0; left -= 24) {
            x.times(Math.min(24, left));
        }
    }
}
