import java.io.IOException;

/** The Terms, sentence by sentence, each with the edges that it names; answers worked out by hand. */
public final class TermsTests {
    private static final int NONE = -1000000, BAD = -1000001, STATE = -1000002, FULL = -1000003;
    private static final int NULL = -1000011, PLACE = -1000012, KIND = -1000013, SIZE = -1000014, STORE = -1000015;
    private static final int NO_FAULT = 0;
    private static final String FIVE = Play.FIVE;
    private static final String TEN = Play.ten("e24,3;", "f24,9,9;");
    private static final String PICTURES =
            "f9,0,9;f9,1,9;f9,2,9;f9,3,9;f9,4,9;f9,5,9;f9,6,9;f9,7,9;f9,8,9;f9,9,9;";

    private static final Check CHECK = new Check("TermsTests");
    private static Sentences doc;

    public static void main(String[] args) throws IOException {
        doc = new Sentences(CHECK);
        doc.open("Terms");
        numbers();
        fractions();
        sets();
        refusals();
        findings();
        nothingElseChanges();
        rows();
        tape();
        tokens();
        grammar();
        law();
        windows();
        streetInPlace();
        faults();
        dates();
        flaps();
        doubles();
        cards();
        tights();
        rulers();
        openStays();
        eves();
        wear();
        time();
        looks();
        keeps();
        actsKept();
        actsUndone();
        actsOfNothing();
        actsOfEachSort();
        foretold();
        spots();
        off();
        shut();
        trade();
        along();
        alike();
        guess();
        rowTells();
        sorts();
        wind();
        years();
        kinds();
        bodies();
        sizes();
        marks();
        anew();
        doc.nothingLeft("Terms",
                "```(text)?|={8} \\d|Ahead of the calls (`\\w+`(, )?)+ the interface says: ---- [a-z, ]+\\.");
        CHECK.end();
    }

    private static void says(String quote) {
        doc.says(quote);
    }

    private static void due(String call, long got, long want) {
        doc.due(call, got, want);
    }

    private static void faulty(String text, int at, int number) {
        AdventStreets x = new AdventStreets();
        due("street() of " + text, Play.read(x, text), -1000100 - at);
        due("fault() of " + text, x.fault(), number);
    }

    private static void fine(String text, int windows) {
        AdventStreets x = new AdventStreets();
        due("street() of " + text, Play.read(x, text), windows);
        due("fault() of " + text, x.fault(), NO_FAULT);
    }

    private static void turns(String text, int... openBehind) {
        AdventStreets x = Play.street(text);
        for (int t = 0; t < openBehind.length; t++) {
            due("turn " + (t + 1) + " of " + text, x.times(1), openBehind[t]);
        }
    }

    private static void dueGlues(AdventStreets x, int... glues) {
        for (int w = 0; w < glues.length; w++) {
            due("GLUE of " + w, x.window(w, 2), glues[w]);
        }
    }

    private static void dueSeen(AdventStreets x, int... seen) {
        for (int w = 0; w < seen.length; w++) {
            due("SEEN by " + w, x.window(w, 4), seen[w]);
        }
    }

    // ---- numbers, refusals

    private static void numbers() {
        says("Numbers go from 0 on.");
        AdventStreets x = Play.street(TEN);
        due("the first WINDOW", x.window(0, 1), 9);
        due("the last WINDOW", x.window(9, 1), 9);
        due("ahead of the first", x.window(-1, 1), BAD);
        due("behind the last", x.window(10, 1), BAD);
        due("the first ROW", x.row(0, 0, 1), 1);
        due("the last ROW", x.row(7, 0, 1), 1);
        due("the first ITEM", x.set(0, 0, 1), 1);
        due("behind the last ITEM", x.set(0, 1, 1), PLACE);
        due("the first byte that has a FAULT", x.street(), -1000100);
    }

    private static void dueFraction(String call, AdventStreets x, int[] of, long above, long below) {
        due(call + ", above", x.wind(of[0], of[1], of[2], 0), above);
        due(call + ", below", x.wind(of[0], of[1], of[2], 1), below);
    }

    private static void fractions() {
        says("All that is divided is cut towards 0, but fractions, told as two numbers in lowest terms (0 is 0 by 1).");
        AdventStreets x = Play.street(FIVE);
        dueFraction("none", x, new int[] {0, 0, 0}, 0, 1);
        dueFraction("4 of 10", x, new int[] {0, 0, 4}, 2, 5);
        dueFraction("7 of 10", x, new int[] {0, 0, 7}, 7, 10);
        dueFraction("36 of 100", x, new int[] {4, 1, 2}, 9, 25);
        dueFraction("all", x, new int[] {0, 0, 10}, 1, 1);
        dueFraction("none behind the EVE", x, new int[] {4, 5, 2}, 0, 1);
    }

    private static void sets() {
        says("Sets are bits.");
        AdventStreets x = Play.street(TEN);
        due("none", x.opens(0), 0);
        x.open(9);
        due("the last alone", x.opens(0), 512);
        x.open(0);
        due("the first, too", x.count(6), 513);
        for (int w = 1; w < 9; w++) {
            x.open(w);
        }
        due("all", x.count(6), 1023);
        due("PICTURE 9", x.ahead(0, 1, 1), 512);
        due("PICTURE 0", Play.street("e9,1;f1,0,0;f1,0,0;").ahead(0, 1, 1), 1);
    }

    private static void refusals() {
        says("Refusals are answers, the first of these that fits, but as told: BAD (a number is not as told;"
                + " there is no such thing), STATE (as told), FULL (as told), then FINDINGS, of several the first in time:");
        AdventStreets x = Play.turned(FIVE, 9984);
        due("BAD ahead of FULL", x.times(25), BAD);
        due("FULL", x.times(16), FULL);
        due("neither", x.times(15), 31);
        x = new AdventStreets();
        due("BAD ahead of STATE, image", x.image(2), BAD);
        due("BAD ahead of STATE, restore", x.restore(2), BAD);
        due("BAD ahead of SIZE", x.row(0, 3, -1), BAD);
        due("BAD ahead of NULL", x.copy(0, 0, 8, 0, 0), BAD);
        x.row(0, 0, 2);
        x.row(2, 2, 2);
        due("NULL ahead of PLACE, set", x.set(1, -1, 0), NULL);
        due("NULL ahead of PLACE, copy", x.copy(1, -1, 0, 9, 9), NULL);
        due("NULL of the other ROW ahead of PLACE", x.copy(0, -1, 1, 9, 9), NULL);
        due("STORE ahead of PLACE", x.copy(0, -1, 2, 9, 9), STORE);
        due("PLACE at last", x.copy(0, -1, 0, 9, 9), PLACE);
        Play.read(x, FIVE);
        due("BAD ahead of NULL, fits", x.fits(0, 1, -1, 13, 0), BAD);
        due("NULL ahead of PLACE, fits", x.fits(0, 1, -1, 1, 0), NULL);
        due("PLACE at last, fits", x.fits(0, 0, -1, 1, 0), PLACE);
        due("BAD ahead of KIND", x.as(5, 2), BAD);
    }

    private static void dueFound(AdventStreets x, String call, int got, int want, int number) {
        due(call, got, want);
        due(call + ", status()", x.status(), number);
    }

    private static void findings() {
        says("-1000010 less 1 NULL (a ROW that is missing), 2 PLACE (no such place of a ROW),"
                + " 3 KIND (a WINDOW that is not that), 4 SIZE (fewer than none), 5 STORE (ROWS of two LANES).");
        AdventStreets x = Play.street(FIVE);
        dueFound(x, "NULL", x.drop(0), -1000011, 1);
        x.row(0, 0, 0);
        dueFound(x, "PLACE", x.set(0, 0, 0), -1000012, 2);
        dueFound(x, "KIND", x.as(0, 2), -1000013, 3);
        dueFound(x, "SIZE", x.row(0, 0, -1), -1000014, 4);
        x.row(1, 1, 0);
        dueFound(x, "STORE", x.copy(0, 0, 1, 0, 0), -1000015, 5);
    }

    /** RefusedTests has each refusal of each call. */
    private static void nothingElseChanges() {
        says("What is refused, or found, changes nothing but status().");
        AdventStreets x = Play.street(FIVE);
        Play.tell(x, 0, 1, 1);
        due("SIZE", x.row(0, 2, -1), SIZE);
        due("the ROW stays", x.set(0, 1, 128), -128);
        due("PLACE", x.copy(0, 0, 0, 1, 2), PLACE);
        due("STATE", x.press(0), STATE);
        due("BAD", x.glue(0, 10), BAD);
        due("no ACT", x.count(7), 0);
        due("status() of the latest with a ROW", x.status(), 2);
    }

    // ---- rows

    private static void rows() {
        says("ROWS 0 .. 7 are missing (at first), or have a LANE (0 bytes, 1 shorts, 2 ints)"
                + " and 0 to 40 ITEMS, 0 at first.");
        AdventStreets x = Play.street(TEN);
        for (int row = 0; row < 8; row++) {
            due("missing at first", x.drop(row), NULL);
        }
        for (int row = 0; row < 8; row++) {
            due("40 ITEMS", x.row(row, row % 3, 40), 40);
        }
        due("count(0)", x.count(0), 8);
        for (int from = 0; from <= 28; from += 14) {
            due("0 at first", x.fits(0, 0, from, 12, 2), 1023);
            due("0 at first", x.fits(0, 7, from, 12, 2), 1023);
        }
        due("the last ITEM", x.set(7, 39, 1), 1);
        due("behind it", x.set(7, 40, 1), PLACE);
        due("41 ITEMS", x.row(7, 1, 41), BAD);
        due("no ITEMS", x.row(7, 1, 0), 0);
        due("it is not missing", x.count(0), 8);
        due("no first ITEM", x.set(7, 0, 0), PLACE);
        due("fewer than none", x.row(7, 1, -1), SIZE);
        due("LANE -1", x.row(7, -1, 1), BAD);
        due("LANE 3", x.row(7, 3, 1), BAD);
        due("ROW -1", x.row(-1, 0, 1), BAD);
        due("ROW 8", x.row(8, 0, 1), BAD);
        due("bytes", x.set(0, 0, 32767), -1);
        due("shorts", x.set(1, 0, 32767), 32767);
        due("shorts", x.set(1, 0, 65535), -1);
        due("ints", x.set(2, 0, 65535), 65535);
    }

    // ---- texts

    private static void tape() {
        says("TEXTS: THE TAPE has at most 130 bytes, that come one by one;");
        AdventStreets x = new AdventStreets();
        due("none at first", x.count(8), 0);
        Play.feed(x, Play.ten("e24,03;", "f01,09,09;"));
        due("the longest that can be read", x.count(8), 107);
        for (int bytes = 108; bytes <= 130; bytes++) {
            due("feed()", x.feed('f'), bytes);
        }
        due("the 131st", x.feed('f'), FULL);
        due("count(8)", x.count(8), 130);
        due("a full one is read", x.street(), -1000207);
        due("it is empty then", x.count(8), 0);
        due("the first again", x.feed('f'), 1);
        due("it is read", x.street(), -1000100);
        due("an empty one is read", x.street(), -1000100);
        fine(Play.ten("e24,03;", "f01,09,09;"), 10);
    }

    private static boolean isSort(int letter) {
        return letter == 'f' || letter == 'd' || letter == 'c' || letter == 't' || letter == 'r';
    }

    private static void dueByByte(String ahead, int letter, int at, int number) {
        AdventStreets x = new AdventStreets();
        Play.feed(x, ahead);
        x.feed(letter);
        due("street() of " + ahead + " and byte " + letter, x.street(), -1000100 - at);
        due("fault() of " + ahead + " and byte " + letter, x.fault(), number);
    }

    /** Each byte where a letter, a NUMBER, a SIGN stands, and behind the last window there is room for. */
    private static void tokens() {
        says("TOKENS: letters a to z (each by itself), NUMBERS (figures, 2 at most), SIGNS , and ;"
                + " nothing else, no blanks.");
        String full = Play.ten("e9,0;", "f1,1,1;");
        for (int letter = 0; letter <= 255; letter++) {
            boolean isFigure = letter >= '0' && letter <= '9';
            boolean isNone = letter == '0' || letter == '1';
            boolean isTooMuch = letter >= '4' && letter <= '9';
            dueByByte("", letter, letter == 'e' ? 1 : 0, 1);
            dueByByte("e9,1;", letter, isSort(letter) ? 6 : 5, 1);
            dueByByte("e", letter, isFigure && !isNone ? 2 : 1, isNone ? 2 : 1);
            dueByByte("e9", letter, isFigure ? 1 : letter == ',' ? 3 : 2, isFigure ? 2 : 1);
            dueByByte("e9,0", letter, isTooMuch ? 3 : isFigure || letter == ';' ? 5 : 4, isTooMuch ? 2 : 1);
            dueByByte(full, letter, 75, isSort(letter) ? 3 : 1);
        }
        faulty("ee9,1;", 1, 1);
        faulty("e9,1;ff1,1,1;", 6, 1);
        faulty("e9 ,1;", 2, 1);
        faulty("e 9,1;", 1, 1);
        faulty("e9,1;\nf1,1,1;", 5, 1);
        faulty("e9,1;F1,1,1;", 5, 1);
        fine("e09,01;f01,01,01;f24,09,09;", 2);
    }

    private static void grammar() {
        says("street: law window window { window }.");
        faulty("", 0, 1);
        faulty("e9,1;", 5, 1);
        faulty("e9,1;f1,1,1;", 12, 1);
        String three = "e9,1;f2,3,4;d2,1,2;c4,3,1;";
        for (int bytes = 0; bytes < three.length(); bytes++) {
            if (bytes == 19) {
                fine(three.substring(0, bytes), 2);
            } else {
                faulty(three.substring(0, bytes), bytes, 1);
            }
        }
        fine(three, 3);
        faulty("f1,1,1;f1,1,1;", 0, 1);
        faulty("e9,1;e9,1;", 5, 1);
        faulty("e9,1;f1,1,1;f1,1,1;;", 19, 1);
        for (int windows = 2; windows <= 10; windows++) {
            fine("e9,1;" + "r1,1,1;".repeat(windows), windows);
        }
    }

    private static void law() {
        says("law: e EVE , SIGHT ; (2 to 24; 0 to 3).");
        String two = "f1,1,1;f1,1,1;";
        AdventStreets x = Play.street("e2,0;" + two);
        due("the least EVE", x.count(4), 2);
        due("the least SIGHT", x.count(5), 0);
        x = Play.street("e24,3;" + two);
        due("the most EVE", x.count(4), 24);
        due("the most SIGHT", x.count(5), 3);
        faulty("e1,0;" + two, 1, 2);
        faulty("e0,0;" + two, 1, 2);
        faulty("e25,0;" + two, 1, 2);
        faulty("e99,0;" + two, 1, 2);
        faulty("e9,4;" + two, 3, 2);
        faulty("e24,10;" + two, 4, 2);
    }

    private static void windows() {
        says("window: SORT DAY , PICTURE , GLUE ; (SORT: f a flap, d a double one, c of card only, t a tight one,"
                + " r one with a ruler; 1 to 24; 0 to 9; 0 to 9; WINDOWS 0 .. 9, 2 to 10, side by side, all SHUT).");
        AdventStreets x = Play.street("e9,1;f1,0,0;d24,9,9;c1,0,9;t24,9,0;r1,1,1;");
        int[] days = {1, 24, 1, 24, 1};
        int[] pictures = {0, 9, 0, 9, 1};
        int[] glues = {0, 9, 9, 0, 1};
        for (int w = 0; w < 5; w++) {
            due("KIND of " + w, x.kind(w), w + 1);
            due("DAY of " + w, x.window(w, 0), days[w]);
            due("PICTURE of " + w, x.window(w, 1), pictures[w]);
            due("GLUE of " + w, x.window(w, 2), glues[w]);
            due("SHUT is " + w, x.window(w, 3), 0);
        }
        due("none is OPEN", x.count(6), 0);
        faulty("e9,1;f0,1,1;f1,1,1;", 6, 2);
        faulty("e9,1;f25,1,1;f1,1,1;", 6, 2);
        faulty("e9,1;f1,10,1;f1,1,1;", 8, 2);
        faulty("e9,1;f1,1,10;f1,1,1;", 10, 2);
        faulty("e9,1;f1,1,1;f1,1,99;", 17, 2);
        faulty("e9,1;f1,1,1;f1,1,1;f00,1,1;", 20, 2);
        fine("e9,1;f1,1,1;f1,1,1;", 2);
        fine(TEN, 10);
        faulty(TEN + "f24,9,9;", 86, 3);
        x = Play.street(Play.ten("e24,0;", "r24,0,9;"));
        x.open(0);
        due("the first has one beside it", x.opens(1), 3);
        x.open(9);
        due("the last has one beside it", x.opens(1), 771);
    }

    private static void streetInPlace() {
        says("A STREET that is read stands in place of the one before (none at first): TIME 0, nobody has SEEN"
                + " anything; no ACT can be undone; IMAGES and ROWS stay.");
        AdventStreets x = new AdventStreets();
        due("none at first", x.opens(0), STATE);
        Play.read(x, Play.ten("e2,1;", "f1,3,4;"));
        x.times(3);
        x.image(1);
        x.row(6, 2, 40);
        due("ten OPEN", x.count(6), 1023);
        due("SEEN", x.window(1, 4), 8);
        due("foretold is an OPEN one", x.opens(2), 1023);
        due("fewer WINDOWS", Play.read(x, "e9,0;t1,2,3;r4,5,6;"), 2);
        due("there are no more", x.window(2, 0), BAD);
        due("TIME", x.count(2), 0);
        due("OPEN", x.count(6), 0);
        dueSeen(x, 0, 0);
        due("ACTS", x.count(7), 0);
        due("undo()", x.undo(), STATE);
        due("ROWS", x.set(6, 39, 7), 7);
        x.times(1);
        due("more WINDOWS", Play.read(x, "e9,0;f1,2,3;f4,5,6;f7,8,9;"), 3);
        dueSeen(x, 0, 0, 0);
        due("IMAGES", x.restore(1), 1);
        due("ten OPEN again", x.count(6), 1023);
        due("SEEN again", x.window(9, 4), 8);
        due("the other IMAGE", x.restore(0), STATE);
    }

    private static void faults() {
        says("FAULTS, the first TOKEN that has one (its first byte), of one TOKEN the least:");
        faulty("e1,9;x", 1, 2);
        faulty("e9,9;x", 3, 2);
        faulty("e9,1;f25,10,10;", 6, 2);
        faulty("e9,1;f24,10,10;", 9, 2);
        faulty("e9,1;f24,09,10;", 12, 2);
        faulty("99,1;", 0, 1);
        faulty("e9,99", 3, 2);
        says("1 it cannot stand there, or is none (a run of three figures or more, at its first;"
                + " the end: how many bytes there are);");
        faulty("e009,1;", 1, 1);
        faulty("e999,1;", 1, 1);
        faulty("e0000", 1, 1);
        faulty("9".repeat(130), 0, 1);
        faulty("e9,1;" + "9".repeat(125), 5, 1);
        faulty("e9,1;f1,1,1;f1,1,001;", 17, 1);
        faulty("e9,1;f1,1,1;f1,1,1;123", 19, 1);
        faulty("e,1;", 1, 1);
        faulty("e9", 2, 1);
        faulty("e24", 3, 1);
        faulty("e9;1,", 2, 1);
        says("2 a NUMBER that is not as told;");
        faulty("e1", 1, 2);
        faulty("e25", 1, 2);
        faulty("e2,4", 3, 2);
        faulty("e2,3;f0", 6, 2);
        faulty("e2,3;f24,10", 9, 2);
        faulty("e2,3;f24,9,10", 11, 2);
        says("3 a window more than there is room for (its letter).");
        for (char sort : "fdctr".toCharArray()) {
            faulty(TEN + sort, 86, 3);
            faulty(TEN + sort + "99,x", 86, 3);
        }
        faulty(TEN + "e", 86, 1);
        faulty(TEN + ";", 86, 1);
        faulty(TEN + "24", 86, 1);
    }

    // ---- turns

    private static void dates() {
        says("THE DATE is TIME left over by EVE, and 1 more (1 to EVE).");
        for (int eve : new int[] {2, 3, 24}) {
            AdventStreets x = Play.street("e" + eve + ",0;f1,1,1;f1,1,1;");
            int date = 1;
            for (int time = 0; time <= 49; time++) {
                due("EVE " + eve + ", TIME " + time, x.count(3), date);
                x.times(1);
                date = date == eve ? 1 : date + 1;
            }
        }
        AdventStreets x = Play.turned("e24,0;f1,1,1;f1,1,1;", 9999);
        due("TIME 9999", x.count(3), 16);
    }

    private static void flaps() {
        says("A TURN, all by what is OPEN as it begins: a flap OPENS, if THE DATE is its DAY;");
        turns("e4,0;f2,0,9;f1,0,0;", 2, 3, 3, 0, 2, 3);
        turns("e2,0;f2,0,9;f3,0,9;f24,0,9;", 0, 0, 0, 0);
        AdventStreets x = Play.turned("e2,0;f2,0,9;f3,0,9;", 2);
        dueGlues(x, 8, 9);
        turns("e24,0;f1,0,0;f24,0,0;", 1, 1);
        turns("e9,0;f1,0,0;r9,0,9;r9,0,9;", 1, 3, 7);
        turns("e9,0;r9,0,9;r9,0,9;f1,0,0;", 4, 6, 7);
    }

    private static void doubles() {
        says("a double one as a flap, or if THE DATE is 1 more than its DAY;");
        AdventStreets x = Play.street("e9,0;d3,0,9;f9,0,9;");
        due("ahead of its DAY", x.times(2), 0);
        due("on its DAY", x.times(1), 1);
        x.press(0);
        due("a day on", x.times(1), 1);
        x.press(0);
        due("two days on", x.times(1), 0);
        x = Play.street("e3,0;d2,0,9;f9,0,9;");
        due("on its DAY", x.times(2), 1);
        due("GLUE", x.press(0), 8);
        due("a day on is the EVE", x.times(1), 0);
        due("it has opened there", x.window(0, 2), 7);
        due("behind the EVE", x.times(1), 0);
        turns("e3,0;d3,0,9;f9,0,9;", 0, 0, 0, 0, 0, 0);
        dueGlues(Play.turned("e3,0;d3,0,9;f9,0,9;", 5), 8, 9);
        turns("e2,0;d1,0,9;d24,0,9;", 1, 0, 1, 0);
        x = Play.turned("e24,0;d24,0,9;d23,0,9;", 23);
        due("DAY 23 of 24", x.count(6), 2);
        due("DAY 24 of 24", x.times(1), 0);
        dueGlues(x, 8, 7);
        due("on 1", x.times(1), 0);
    }

    private static void cards() {
        says("one of card only as a flap, or if its GLUE is 0;");
        turns("e9,0;c3,0,1;c9,0,0;c9,0,1;c3,0,0;", 10, 10, 11);
        turns("e2,0;c9,0,0;f9,0,0;", 1, 0, 1, 0);
        dueGlues(Play.turned("e2,0;c9,0,0;f9,0,0;", 4), 0, 0);
        turns("e3,0;c3,0,1;f9,0,0;", 0, 0, 0, 1, 1, 0);
        turns("e9,0;f9,0,0;d9,0,0;t9,0,0;r9,0,0;c9,0,0;", 16, 24);
    }

    private static void tights() {
        says("a tight one as a flap, but only if its GLUE is 4 or less;");
        turns("e9,0;t1,0,0;t1,0,4;t1,0,5;t1,0,9;t2,0,0;", 3, 19, 19);
        AdventStreets x = Play.street("e2,0;t1,0,5;f9,0,0;");
        due("held by 5", x.times(2), 0);
        x.open(0);
        due("nothing wears by hand", x.press(0), 5);
        x.open(0);
        due("still open", x.times(1), 1);
        due("the EVE", x.times(1), 0);
        due("not held by 4", x.times(1), 1);
        x = Play.street("e9,0;t1,0,4;t1,0,4;");
        x.glue(0, 1);
        due("glued to 5", x.times(1), 2);
    }

    private static void rulers() {
        says("one with a ruler as a tight one, or if one right beside it was OPEN.");
        turns("e9,0;r2,0,4;f9,0,9;f9,0,9;r2,0,5;", 0, 1, 1);
        turns("e9,0;f1,0,9;f9,0,9;r9,0,9;", 1, 1, 1);
        turns("e9,0;r9,0,9;f1,0,9;r9,0,9;", 2, 7);
        turns("e2,0;f1,0,9;r9,0,9;", 1, 0, 1, 0);
        dueGlues(Play.turned("e2,0;f1,0,9;r9,0,9;", 2), 7, 8);
        String rulers = Play.ten("e24,0;", "r24,0,9;");
        AdventStreets x = Play.street(rulers);
        due("none", x.times(9), 0);
        x.open(0);
        due("beside the first", x.times(1), 3);
        due("and so on", x.times(8), 1023);
        x = Play.street(rulers);
        x.open(9);
        due("beside the last", x.times(1), 768);
        due("and so on", x.times(8), 1023);
        x = Play.street(rulers);
        x.open(4);
        x.press(4);
        due("it is not OPEN any more", x.times(1), 0);
    }

    private static void openStays() {
        says("(What is OPEN stays.)");
        turns("e4,0;f1,0,9;t1,0,4;", 3, 3, 3, 0);
        AdventStreets x = Play.street("e24,0;t24,0,9;f24,0,9;");
        x.open(0);
        for (int t = 1; t <= 23; t++) {
            due("behind " + t, x.times(1), 1);
        }
        due("behind the EVE", x.times(1), 0);
    }

    private static void eves() {
        says("If THE DATE is EVE, then all that are OPEN are pressed to (SHUT), and GLUE of each of these is"
                + " 1 less (0 at least);");
        AdventStreets x = Play.street("e2,0;f1,0,1;f9,0,5;f9,0,0;f9,0,7;f2,0,1;f2,0,0;");
        x.open(1);
        x.open(2);
        due("ahead of the EVE", x.times(1), 7);
        dueGlues(x, 0, 5, 0, 7, 1, 0);
        due("on the EVE", x.times(1), 0);
        dueGlues(x, 0, 4, 0, 7, 0, 0);
        x = Play.street(Play.ten("e2,0;", "f1,0,9;"));
        due("all ten", x.times(1), 1023);
        due("all ten", x.times(1), 0);
        due("the last one's GLUE", x.window(9, 2), 7);
    }

    private static void wear() {
        says("else GLUE of each that OPENED in this TURN is 1 less (0 at least).");
        AdventStreets x = Play.street("e9,0;f1,0,3;f1,0,3;f1,0,0;f1,0,1;f2,0,9;");
        x.open(1);
        due("by hand nothing wears", x.window(1, 2), 3);
        due("a TURN", x.times(1), 15);
        dueGlues(x, 2, 3, 0, 0, 9);
        due("a TURN", x.times(1), 31);
        dueGlues(x, 2, 3, 0, 0, 8);
        due("a TURN", x.times(1), 31);
        dueGlues(x, 2, 3, 0, 0, 8);
    }

    private static void time() {
        says("TIME is 1 more.");
        AdventStreets x = Play.street("e2,0;f9,0,0;f9,0,0;");
        for (int time = 0; time <= 3; time++) {
            due("TIME", x.count(2), time);
            x.times(1);
        }
        x.times(24);
        due("TIME", x.count(2), 28);
    }

    private static void looks() {
        says("Behind the opening (ahead of any pressing to) all LOOK: one in WINDOW w SEES the PICTURES of all OPEN"
                + " WINDOWS that are SIGHT or fewer WINDOWS apart from w, but its own;");
        for (int sight = 0; sight <= 3; sight++) {
            AdventStreets x = Play.street("e24," + sight + ";" + PICTURES);
            x.open(0);
            x.open(9);
            x.times(1);
            for (int w = 0; w < 10; w++) {
                int first = w > 0 && w <= sight ? 1 : 0;
                int last = w < 9 && 9 - w <= sight ? 512 : 0;
                due("SIGHT " + sight + ", WINDOW " + w, x.window(w, 4), first | last);
            }
        }
        AdventStreets x = Play.turned("e9,1;f1,3,9;f1,4,9;", 1);
        dueSeen(x, 16, 8);
        x = Play.street("e2,1;f2,3,9;f9,4,9;f2,5,9;");
        due("opened and pressed to", x.times(2), 0);
        dueSeen(x, 0, 40, 0);
        x = Play.street("e9,1;f9,4,9;f9,4,9;");
        x.open(0);
        dueSeen(x, 0, 0);
        x.times(1);
        dueSeen(x, 0, 16);
        x.open(1);
        x.times(1);
        dueSeen(x, 16, 16);
    }

    private static void keeps() {
        says("what it has SEEN it keeps (bits of PICTURES).");
        AdventStreets x = Play.street("e6,1;f9,3,9;f9,4,9;f9,9,9;");
        x.open(0);
        x.times(1);
        dueSeen(x, 0, 8, 0);
        x.press(0);
        x.open(2);
        x.times(1);
        dueSeen(x, 0, 520, 0);
        x.press(2);
        x.open(1);
        x.times(1);
        dueSeen(x, 16, 520, 16);
        x.sight(0);
        x.times(4);
        dueSeen(x, 16, 520, 16);
    }

    // ---- acts

    private static void actsKept() {
        says("ACTS (24 at most are kept, of more the oldest is forgotten;");
        AdventStreets x = Play.street("e24,0;f24,0,0;f24,0,0;");
        due("none at first", x.count(7), 0);
        due("none at first", x.undo(), STATE);
        for (int n = 1; n <= 24; n++) {
            x.glue(0, 1);
            due("kept", x.count(7), n);
        }
        x.glue(0, 1);
        due("of 25", x.count(7), 24);
        for (int yet = 23; yet >= 0; yet--) {
            due("undo()", x.undo(), yet);
        }
        due("no more", x.undo(), STATE);
        due("the oldest is not undone", x.window(0, 2), 1);
        x.glue(0, 1);
        due("one again", x.count(7), 1);
        due("one again", x.undo(), 0);
        due("one again", x.window(0, 2), 1);
    }

    private static void actsUndone() {
        says("each can be undone, the latest first;");
        AdventStreets x = Play.street("e24,0;f24,0,0;f24,0,0;");
        for (int n = 1; n <= 60; n++) {
            x.sight(n % 4);
        }
        for (int back = 1; back <= 24; back++) {
            due("undo()", x.undo(), 24 - back);
            due("SIGHT", x.count(5), (60 - back) % 4);
        }
        due("undo()", x.undo(), STATE);
        x.times(24);
        due("TIME", x.count(2), 24);
        x.undo();
        due("a TURN, not all", x.count(2), 23);
        x.times(2);
        due("ACTS", x.count(7), 24);
        x.undo();
        x.undo();
        due("TIME", x.count(2), 23);
        due("ACTS", x.count(7), 22);
    }

    private static void actsOfNothing() {
        says("also such by which nothing becomes another):");
        AdventStreets x = Play.street("e24,2;f24,0,9;f24,0,0;");
        due("SIGHT as it is", x.sight(2), 2);
        due("GLUE is 9", x.glue(0, 9), 9);
        due("DAYS alike", x.trade(0, 1), 24);
        due("ACTS", x.count(7), 3);
        due("undo()", x.undo(), 2);
        due("undo()", x.undo(), 1);
        due("undo()", x.undo(), 0);
        due("undo()", x.undo(), STATE);
        x.image(0);
        x.row(0, 0, 1);
        x.ask(0, 0);
        x.drawn(60, 1, 0);
        x.feed('e');
        due("these are no ACTS", x.count(7), 0);
    }

    private static void actsOfEachSort() {
        says("a TURN; a WINDOW is OPENED by hand, pressed to; GLUE is put on (9 at most); DAYS of two WINDOWS are"
                + " changed; SIGHT is another.");
        AdventStreets x = Play.street("e2,1;f1,0,8;f2,1,0;");
        x.times(2);
        x.open(1);
        x.press(1);
        due("up to 9", x.glue(1, 9), 9);
        due("9 at most", x.glue(0, 9), 9);
        x.trade(0, 1);
        x.sight(3);
        due("ACTS", x.count(7), 8);
        x.undo();
        due("SIGHT", x.count(5), 1);
        x.undo();
        due("DAYS", x.window(0, 0) * 10 + x.window(1, 0), 12);
        x.undo();
        due("GLUE", x.window(0, 2), 6);
        x.undo();
        due("GLUE", x.window(1, 2), 0);
        x.undo();
        due("pressed to", x.count(6), 2);
        x.undo();
        due("OPENED", x.count(6), 0);
        dueSeen(x, 2, 1);
        x.undo();
        due("the EVE", x.count(6), 1);
        dueGlues(x, 7, 0);
        dueSeen(x, 0, 1);
        due("the first TURN", x.undo(), 0);
        due("TIME", x.count(2), 0);
        dueGlues(x, 8, 0);
        dueSeen(x, 0, 0);
    }

    // ---- foretold

    private static void foretold() {
        says("FORETOLD (nothing changes) d TURNS on (0 to 60): WINDOWS (bits) that are OPEN; GLUE of a WINDOW;"
                + " what it has SEEN (bits).");
        AdventStreets x = Play.street("e3,1;f1,2,9;f2,3,9;");
        int[] open = {0, 1, 3};
        int[] glues = {9, 8, 8};
        for (int d = 0; d <= 60; d++) {
            due("OPEN behind " + d, x.opens(d), open[d % 3]);
            due("GLUE behind " + d, x.ahead(0, d, 0), Math.max(0, glues[d % 3] - d / 3 * 2));
            due("SEEN behind " + d, x.ahead(0, d, 1), d < 2 ? 0 : 8);
        }
        due("behind 61", x.opens(61), BAD);
        due("behind 61", x.ahead(0, 61, 0), BAD);
        due("behind -1", x.opens(-1), BAD);
        due("behind -1", x.ahead(0, -1, 1), BAD);
        due("nothing changes", x.count(2) + x.count(6) + x.count(7) + x.window(0, 4), 0);
        due("nothing changes", x.window(0, 2), 9);
    }

    /** The card's GLUE is off behind 57 TURNS; it OPENS in the next, and a ruler further on in each. */
    private static void spots() {
        says("SPOTS: behind how many TURNS (0 to 60) a WINDOW has SEEN a PICTURE first; NONE.");
        AdventStreets x = Play.street("e19,1;c19,1,3;r24,2,9;r24,3,9;r24,5,9;f24,4,9;");
        due("the first EVE", x.spots(1, 1), 19);
        due("59", x.spots(2, 2), 59);
        due("60", x.spots(3, 3), 60);
        due("61", x.spots(4, 5), NONE);
        due("never", x.spots(0, 4), NONE);
        x.times(19);
        due("now", x.spots(1, 1), 0);
        due("PICTURE 9, none has it", x.spots(1, 9), NONE);
        due("PICTURE 10", x.spots(1, 10), BAD);
        due("PICTURE -1", x.spots(1, -1), BAD);
        due("PICTURES 0 and 9", Play.street("e9,1;f1,0,0;f1,9,0;").spots(0, 9), 1);
        due("PICTURES 0 and 9", Play.street("e9,1;f1,0,0;f1,9,0;").spots(1, 0), 1);
    }

    private static void dueOff(String text, int which, int turns) {
        AdventStreets x = Play.street(text);
        due("which of " + text, x.off(0), which);
        due("behind how many of " + text, x.off(1), turns);
    }

    private static void off() {
        says("OFF: the WINDOW whose GLUE is 0 first, of several the least; behind how many TURNS (0 to 60); NONE.");
        dueOff("e9,0;f1,0,0;f1,0,0;", 0, 0);
        dueOff("e9,0;f1,0,1;f1,0,0;", 1, 0);
        dueOff("e9,0;f2,0,1;f1,0,1;", 1, 1);
        dueOff("e9,0;f3,0,9;f1,0,2;f9,0,1;", 1, 9);
        dueOff("e20,0;f20,0,4;f20,0,3;f20,0,3;", 1, 60);
        dueOff("e20,0;f24,0,1;f1,0,7;", NONE, NONE);
        dueOff("e24,0;" + "f24,0,9;".repeat(9) + "f1,0,1;", 9, 1);
        due("it has just come off", Play.turned("e9,0;f2,0,1;f1,0,1;", 1).off(1), 0);
    }

    private static void dueShut(AdventStreets x, int window, int n, int bits) {
        String call = "shut(" + window + "," + n + ",..)";
        due(call + ", which", x.shut(window, n, 1), bits);
        due(call + ", how many", x.shut(window, n, 0), bits == NONE ? NONE : Integer.bitCount(bits));
    }

    private static void shut() {
        says("SHUT for a WINDOW, n TURNS (1 to 24): the fewest WINDOWS glued fast now (GLUE 9) so that it OPENS in"
                + " none of these: how many; which (bits), of several the least; NONE (also if it is OPEN now).");
        AdventStreets x = Play.street("e24,0;t24,0,4;f24,0,0;c24,0,0;t1,0,5;");
        dueShut(x, 0, 23, 0);
        dueShut(x, 0, 24, 1);
        dueShut(x, 1, 23, 0);
        dueShut(x, 1, 24, NONE);
        dueShut(x, 2, 1, 4);
        dueShut(x, 2, 23, 4);
        dueShut(x, 2, 24, NONE);
        dueShut(x, 3, 1, 0);
        dueShut(x, 3, 24, 0);
        due("no TURNS", x.shut(0, 0, 0), BAD);
        due("25 TURNS", x.shut(0, 25, 0), BAD);
        due("nothing changes", x.window(0, 2) + x.count(7), 4);
        x.open(0);
        dueShut(x, 0, 1, NONE);
        x = Play.street("e9,0;t1,0,0;r9,0,9;t2,0,4;");
        dueShut(x, 1, 1, 0);
        dueShut(x, 1, 2, 1);
        dueShut(x, 1, 3, 5);
        x.open(2);
        dueShut(x, 1, 1, NONE);
        x = Play.street("e9,0;f1,0,0;r9,0,0;");
        dueShut(x, 1, 1, 0);
        dueShut(x, 1, 2, NONE);
        x = Play.street("e24,0;" + "f1,0,0;".repeat(8) + "t1,0,0;r24,0,9;");
        dueShut(x, 9, 1, 0);
        dueShut(x, 9, 24, 256);
        shutAmongSeveral();
    }

    private static void shutAmongSeveral() {
        // A ruler of ten: the first tight one alone lets it be OPENED, step by step.
        AdventStreets x = Play.street("e24,0;t1,0,0;" + "r24,0,9;".repeat(9));
        dueShut(x, 9, 9, 0);
        dueShut(x, 9, 10, 1);
        // The ruler of DAY 1 wears to 4 on the EVE, if the tight one was OPEN: either may be glued.
        x = Play.street("e4,0;t3,0,4;r1,0,5;r9,0,9;");
        dueShut(x, 2, 5, 0);
        dueShut(x, 2, 6, 1);
        x = Play.street("e4,0;r9,0,9;r1,0,5;t3,0,4;");
        dueShut(x, 0, 6, 2);
        // The first two may be glued, by whom the third wears; the third alone is fewer.
        x = Play.street("e4,0;t2,0,4;r3,0,4;r1,0,5;r9,0,9;");
        dueShut(x, 3, 5, 0);
        dueShut(x, 3, 6, 4);
        // The tight one is OPEN, and pressed to on the EVE: glued now, it stays SHUT on its DAY.
        x = Play.turned("e3,0;t1,0,4;r9,0,9;r9,0,9;", 2);
        x.press(1);
        dueShut(x, 2, 3, 0);
        dueShut(x, 2, 4, 1);
    }

    private static void dueTrade(AdventStreets x, int window, int n, int pair, int pictures) {
        String call = "trades(" + window + "," + n + ",..)";
        due(call + ", the pair", x.trades(window, n, 0), pair);
        due(call + ", how many", x.trades(window, n, 1), pictures);
    }

    private static void trade() {
        says("TRADE for a WINDOW, n TURNS (1 to 24): of pairs (a below b) whose DAYS are changed now that by which it"
                + " has SEEN most PICTURES behind them, of several the first: 10 a and b; how many.");
        AdventStreets x = Play.street("e24,1;" + "f24,0,9;".repeat(8) + "f24,8,9;f2,9,9;");
        dueTrade(x, 9, 1, 1, 0);
        dueTrade(x, 9, 2, 89, 1);
        dueTrade(x, 9, 23, 89, 1);
        dueTrade(x, 9, 24, 1, 1);
        dueTrade(x, 0, 2, 19, 1);
        due("no TURNS", x.trades(0, 0, 0), BAD);
        due("25 TURNS", x.trades(0, 25, 0), BAD);
        x.open(8);
        x.times(1);
        dueTrade(x, 9, 1, 1, 1);
        due("nothing changes", x.window(8, 0) * 100 + x.window(9, 0), 2402);
        dueTrade(Play.street("e24,1;f24,1,0;f24,2,0;"), 0, 23, 1, 0);
        dueTrade(Play.street("e24,1;f24,1,0;f24,2,0;"), 0, 24, 1, 1);
        dueTrade(Play.street("e9,2;f1,1,0;f1,2,0;f1,1,0;f1,2,0;f9,5,0;"), 4, 1, 1, 2);
    }

    private static void dueAlong(AdventStreets x, int window, int steps, int know) {
        due("STEPS from " + window, x.along(window, 0), steps);
        due("how many from " + window, x.along(window, 1), know);
    }

    private static void along() {
        says("ALONG from a WINDOW: a word goes in each STEP from each that knows it to those that are SIGHT or fewer"
                + " WINDOWS apart, if these are SHUT now: behind how many STEPS all that ever will know it know it"
                + " (it, too); how many these are.");
        AdventStreets x = Play.street(TEN);
        dueAlong(x, 0, 3, 10);
        dueAlong(x, 9, 3, 10);
        dueAlong(x, 4, 2, 10);
        x.sight(2);
        dueAlong(x, 0, 5, 10);
        x.sight(1);
        dueAlong(x, 0, 9, 10);
        dueAlong(x, 5, 5, 10);
        x.sight(0);
        dueAlong(x, 5, 0, 1);
        x.sight(1);
        x.open(4);
        dueAlong(x, 0, 3, 4);
        dueAlong(x, 9, 4, 5);
        dueAlong(x, 4, 5, 10);
        x.open(5);
        x.sight(2);
        dueAlong(x, 0, 2, 4);
        x.sight(3);
        dueAlong(x, 0, 3, 8);
        for (int w : new int[] {0, 1, 2, 3, 6, 7, 8, 9}) {
            x.open(w);
        }
        dueAlong(x, 4, 0, 1);
        due("no pair beyond the ends", Play.street("e9,3;f1,1,1;f1,1,1;").along(1, 1), 2);
    }

    private static void dueAlike(String text, int pairs, int first) {
        AdventStreets x = Play.street(text);
        due("how many of " + text, x.alike(0), pairs);
        due("the first of " + text, x.alike(1), first);
    }

    private static void alike() {
        says("ALIKE: pairs of WINDOWS with one PICTURE: how many; the first (10 a and b); NONE.");
        dueAlike(TEN, 45, 1);
        dueAlike("e9,0;" + PICTURES, 0, NONE);
        dueAlike("e9,0;f1,0,0;f1,0,0;", 1, 1);
        dueAlike("e9,0;f1,0,0;f1,1,0;", 0, NONE);
        dueAlike("e9,0;" + PICTURES.substring(0, 63) + "f1,8,0;", 1, 89);
        dueAlike("e9,0;f1,9,0;" + PICTURES.substring(7), 1, 9);
        dueAlike("e9,0;f1,1,0;f1,2,0;f1,2,0;f1,1,0;", 2, 3);
    }

    private static void guess() {
        says("GUESS of a WINDOW: PICTURES (bits) of all WINDOWS that it has not SEEN.");
        AdventStreets x = Play.street("e9,3;" + PICTURES);
        due("none is SEEN", x.guess(0), 1023);
        due("none is SEEN", x.guess(9), 1023);
        x.times(9);
        due("three are SEEN", x.guess(0), 1023 - 14);
        due("six are SEEN", x.guess(4), 1023 - 238);
        x = Play.turned("e9,1;f1,5,0;f1,5,0;", 1);
        due("all are SEEN", x.guess(0), 0);
        x.undo();
        due("its own, too", x.guess(0), 32);
    }

    private static void dueFits(AdventStreets x, String call, int n, int what, int bits) {
        due(call, x.fits(0, 0, 0, n, what), bits);
    }

    private static void rowTells() {
        says("A row tells whether a WINDOW is OPEN (1, 0) behind each of n TURNS (1 to 12) from now on.");
        AdventStreets x = Play.street("e24,0;f12,0,9;f24,0,9;");
        Play.tell(x, 0, 0, 0, 0, 0, 0, 0, 0, 0, 0, 0, 0, 1, 0);
        dueFits(x, "twelve", 12, 1, 1 << 12);
        dueFits(x, "one", 1, 1, (1 << 25) - 4);
        dueFits(x, "none", 0, 1, BAD);
        dueFits(x, "thirteen", 13, 1, BAD);
        due("the last twelve", x.fits(0, 0, 1, 12, 1), 0);
        due("beyond the end", x.fits(0, 0, 2, 12, 1), PLACE);
        due("the last", x.fits(0, 0, 11, 1, 1), 2);
        due("another WINDOW", x.fits(1, 0, 0, 11, 1), (1 << 25) - (1 << 12));
        x.times(11);
        due("from now on", x.fits(0, 0, 11, 1, 1), 1 << 12);
        x.row(0, 0, 40);
        due("the end of the longest", x.fits(0, 0, 28, 12, 3), (1 << 13) - 4);
        due("beyond it", x.fits(0, 0, 29, 12, 3), PLACE);
        Play.tell(x, 0, 1, 2, -1, 257);
        due("1", x.fits(0, 0, 0, 1, 1), 1 << 12);
        due("2 is neither", x.fits(0, 0, 1, 1, 1), 0);
        due("-1 is neither", x.fits(0, 0, 2, 1, 1), 0);
        due("257 is the byte 1", x.fits(0, 0, 3, 1, 1), 1 << 12);
    }

    private static void sorts() {
        says("SORTS: KINDS (bits 1 to 5) of it by which it is so; DATES (1 to 24, bits) for its DAY;"
                + " GLUES (0 to 9, bits) of it now; EVES (2 to 24, bits).");
        AdventStreets x = Play.street("e24,0;f24,0,9;f24,0,9;");
        Play.tell(x, 0, 0, 0, 0, 0, 0, 0, 0, 0, 0, 0, 0, 0);
        dueFits(x, "all KINDS", 12, 0, 62);
        dueFits(x, "DATES but those that come", 12, 1, (1 << 25) - (1 << 13));
        dueFits(x, "all GLUES", 12, 2, 1023);
        dueFits(x, "all EVES", 12, 3, (1 << 25) - 4);
        x.times(12);
        dueFits(x, "the EVE itself leaves it SHUT", 12, 1, (1 << 13) - 2 | 1 << 24);
        Play.tell(x, 0, 1);
        dueFits(x, "no KIND", 1, 0, 0);
        dueFits(x, "no GLUE", 1, 2, 0);
        x.open(1);
        dueFits(x, "a ruler alone", 1, 0, 32);
        x.open(0);
        dueFits(x, "it is OPEN", 1, 0, 62);
        dueFits(x, "it is OPEN", 1, 1, (1 << 25) - 2);
        sortsByGlue();
        sortsByEve();
    }

    private static void sortsByGlue() {
        AdventStreets x = Play.street("e24,0;c24,0,5;f24,0,9;");
        Play.tell(x, 0, 1, 1);
        dueFits(x, "a card that is OPEN", 2, 2, 1);
        Play.tell(x, 0, 0, 0);
        dueFits(x, "a card that is SHUT", 2, 2, 1022);
        x = Play.street("e24,0;t1,0,5;f24,0,9;");
        Play.tell(x, 0, 0, 0);
        dueFits(x, "a tight one that is SHUT", 2, 2, 992);
        Play.tell(x, 0, 1, 1);
        dueFits(x, "a tight one that is OPEN", 2, 2, 31);
        dueFits(x, "KINDS of DAY 1 by GLUE 5", 2, 0, 14);
    }

    private static void sortsByEve() {
        AdventStreets x = Play.street("e24,0;f1,0,9;f24,0,9;");
        Play.tell(x, 0, 1, 0, 1, 0);
        dueFits(x, "the least EVE", 4, 3, 4);
        x = Play.turned("e24,0;f13,0,9;f24,0,9;", 12);
        Play.tell(x, 0, 1, 1, 1, 1, 1, 1, 1, 1, 1, 1, 1, 0);
        dueFits(x, "the most EVE", 12, 3, 1 << 24);
        Play.tell(x, 0, 1);
        dueFits(x, "those of 13 and beyond", 1, 3, (1 << 25) - (1 << 14));
    }

    private static void wind() {
        says("WIND: each WINDOW that is SHUT is OPENED now by c of 10, each by itself (nobody looks): that a WINDOW is"
                + " OPEN behind n TURNS (0 to 24): a fraction.");
        AdventStreets x = Play.street("e24,0;f24,0,9;r24,0,9;");
        dueFraction("no TURNS", x, new int[] {0, 0, 5}, 1, 2);
        dueFraction("no TURNS", x, new int[] {1, 0, 5}, 1, 2);
        dueFraction("23 TURNS", x, new int[] {0, 23, 5}, 1, 2);
        dueFraction("23 TURNS", x, new int[] {1, 23, 5}, 3, 4);
        dueFraction("24 TURNS", x, new int[] {1, 24, 5}, 0, 1);
        dueFraction("no wind", x, new int[] {1, 23, 0}, 0, 1);
        dueFraction("all wind", x, new int[] {1, 23, 10}, 1, 1);
        due("25 TURNS", x.wind(0, 25, 5, 0), BAD);
        due("-1 TURNS", x.wind(0, -1, 5, 0), BAD);
        due("11 of 10", x.wind(0, 0, 11, 0), BAD);
        due("-1 of 10", x.wind(0, 0, -1, 0), BAD);
        x.open(0);
        dueFraction("it is OPEN", x, new int[] {0, 0, 0}, 1, 1);
        dueFraction("one beside is OPEN", x, new int[] {1, 0, 1}, 1, 10);
        dueFraction("one beside is OPEN", x, new int[] {1, 1, 1}, 1, 1);
        x = Play.street(Play.ten("e24,0;", "r24,0,9;"));
        dueFraction("the first of ten", x, new int[] {0, 9, 1}, 6513215599L, 10000000000L);
        dueFraction("the first of ten", x, new int[] {0, 23, 9}, 9999999999L, 10000000000L);
        dueFraction("eight of ten", x, new int[] {9, 7, 5}, 255, 256);
    }

    private static void years() {
        says("YEARS of n TURNS (0 to 60) by a SEED (X at first): ahead of each X becomes the rest of (X times 16807) by"
                + " 2147483647; the WINDOW that is the rest of X by how many there are is OPENED by hand, or pressed"
                + " to, if it was OPEN, if X by 3 leaves 0, else GLUE of it becomes the rest of X by 10; then the"
                + " TURN: how many are OPEN at last; how many PICTURES some WINDOW has SEEN (what was SEEN ahead"
                + " counts).");
        // By SEED 999999, X is 16806983193, less 7 times 2147483647: 1774597664, which is 2 by 3, 4 by 10, 0 by 2.
        AdventStreets x = Play.street("e24,1;t1,1,9;t1,2,9;");
        due("the most SEED", x.drawn(1, 999999, 0), 1);
        due("the most SEED", x.drawn(1, 999999, 1), 1);
        // By SEED 1, X is 16807: 1 by 3, 7 by 10, 1 by 2.
        due("the least SEED", x.drawn(1, 1, 0), 0);
        due("SEED 0", x.drawn(1, 0, 0), BAD);
        due("SEED 1000000", x.drawn(1, 1000000, 0), BAD);
        due("no TURNS", x.drawn(0, 1, 0), 0);
        due("61 TURNS", x.drawn(61, 1, 0), BAD);
        due("-1 TURNS", x.drawn(-1, 1, 0), BAD);
        // By SEED 3, X is 50421: 0 by 3, 1 by 2.
        x = Play.street("e24,1;f24,1,9;f24,2,9;");
        due("OPENED by hand", x.drawn(1, 3, 0), 1);
        due("OPENED ahead of the TURN", x.drawn(1, 3, 1), 1);
        x.open(1);
        due("pressed to", x.drawn(1, 3, 0), 0);
        due("pressed to ahead of the TURN", x.drawn(1, 3, 1), 0);
        due("no TURNS", x.drawn(0, 3, 0), 1);
        x.times(1);
        due("SEEN ahead", x.drawn(0, 3, 1), 1);
        due("SEEN ahead", x.drawn(1, 3, 1), 1);
        due("nothing changes", x.count(2) * 10 + x.count(6), 12);
        // By SEED 1, X is 16807, 282475249 (1 by 2, 1 by 3, 9 by 10), 1622650073 (1, 2, 3).
        due("held by 9 in the second", Play.street("e24,1;t2,1,9;t2,2,1;").drawn(2, 1, 0), 0);
        due("loose by 3 in the third", Play.street("e24,1;t3,1,9;t3,2,9;").drawn(3, 1, 0), 1);
        due("SEEN in the third", Play.street("e24,1;t3,1,9;t3,2,9;").drawn(3, 1, 1), 1);
        x = Play.street("e2,3;" + PICTURES);
        due("pressed to on the EVE", x.drawn(60, 1, 0), 0);
        due("all ten", Play.turned("e9,1;" + PICTURES, 9).drawn(0, 1, 1), 10);
    }

    // ---- asked

    private static void kinds() {
        says("KINDS of WINDOWS: 0 WINDOW; 1 FLAP, a WINDOW; 2 DOUBLE, a FLAP; 3 CARD, a FLAP; 4 TIGHT, a WINDOW;"
                + " 5 RULER, a TIGHT. By this it is asked.");
        AdventStreets x = Play.street(FIVE);
        String[] are = {"110000", "111000", "110100", "100010", "100011"};
        for (int w = 0; w < 5; w++) {
            for (int kind = 0; kind <= 5; kind++) {
                due("as(" + w + "," + kind + ")", x.as(w, kind), are[w].charAt(kind) == '1' ? w : KIND);
            }
            due("as(" + w + ",-1)", x.as(w, -1), BAD);
            due("as(" + w + ",6)", x.as(w, 6), BAD);
        }
    }

    private static void dueAsk(AdventStreets x, int window, int what, int answer, int... bodies) {
        String call = "ask(" + window + "," + what + ")";
        due(call, x.ask(window, what), answer);
        for (int i = 0; i < 16; i++) {
            due(call + " trace(" + i + ")", x.trace(i), i < bodies.length ? bodies[i] : NONE);
        }
    }

    private static void bodies() {
        says("ASKS of WINDOWS, by BODIES, each of which leaves its number in THE TRACE as it begins (the first 16):");
        AdventStreets x = Play.street(FIVE);
        due("nothing yet", x.trace(0), NONE);
        dueAsk(x, 1, 0, -7, 12, 11, 10, 24, 21, 20);
        dueAsk(x, 0, 1, 4, 21, 20);
        due("beyond 16", x.trace(16), NONE);
        due("below 0", x.trace(-1), NONE);
    }

    private static void sizes() {
        says("0 SIZE: 10 lent to all WINDOWS: PICTURE. 11 of FLAPS: what 10 gives, and MARK. 12 of DOUBLE ones: 0 less"
                + " what 11 gives. 13 of TIGHT ones: what 10 gives, less 100. 14 of RULERS: twice what 13 gives (asked"
                + " once).");
        AdventStreets x = Play.street("e9,1;f1,0,0;d1,9,9;c1,9,0;t1,9,9;r1,0,9;f1,0,0;d1,0,0;c1,0,9;t1,0,0;r1,9,0;");
        int[] sizes = {0, -29, -989, -91, -200, 5, -12, -984, -100, -182};
        for (int w = 0; w < 10; w++) {
            due("SIZE of " + w, x.ask(w, 0), sizes[w]);
        }
        dueAsk(x, 5, 0, 5, 11, 10, 21, 20);
        dueAsk(x, 6, 0, -12, 12, 11, 10, 24, 21, 20);
        dueAsk(x, 7, 0, -984, 11, 10, 22, 21, 20);
        dueAsk(x, 8, 0, -100, 13, 10);
        dueAsk(x, 9, 0, -182, 14, 13, 10);
    }

    private static void marks() {
        says("1 MARK: 20 lent to all WINDOWS: the number. 21 of FLAPS: what 20 gives, and GLUE. 22 of CARDS: what 21"
                + " gives, less 1000. 23 of TIGHT ones: what 20 gives, less SIZE. 24 of DOUBLE ones: twice what 21"
                + " gives (asked once).");
        AdventStreets x = Play.street("e9,1;f1,0,0;d1,9,9;c1,9,0;t1,9,9;r1,0,9;f1,0,9;d1,0,0;c1,0,9;t1,0,0;r1,9,0;");
        int[] marks = {0, 20, -998, 94, 204, 14, 12, -984, 108, 191};
        for (int w = 0; w < 10; w++) {
            due("MARK of " + w, x.ask(w, 1), marks[w]);
        }
        dueAsk(x, 5, 1, 14, 21, 20);
        dueAsk(x, 6, 1, 12, 24, 21, 20);
        dueAsk(x, 7, 1, -984, 22, 21, 20);
        dueAsk(x, 8, 1, 108, 23, 20, 13, 10);
        dueAsk(x, 9, 1, 191, 23, 20, 14, 13, 10);
    }

    private static void anew() {
        says("(Of an ask the BODY told for the KIND begins, else that of the nearest KIND that it is, too, else the one"
                + " that is lent; SIZE, MARK within others are asked of the same WINDOW anew.)");
        AdventStreets x = Play.street(FIVE);
        dueAsk(x, 2, 0, -994, 11, 10, 22, 21, 20);
        dueAsk(x, 4, 1, 204, 23, 20, 14, 13, 10);
        x.glue(2, 9);
        due("by its GLUE now", x.ask(2, 0), -986);
        x.times(4);
        due("by its GLUE then", x.ask(2, 1), -990);
    }
}
