// Edges of refusals, the text, the search, its fault (promises 1 to 5): a test for each sentence that names one.
public final class TextEdgeTests {
    private static final String SHIP = "S315635F23F35F51A4T72";
    private static final String DIGITS = "0123456789";
    private static final String PARTS = "123456789";
    private static final String NINE_CELLS = "S000001F01F11F21F31F41F51F61F71F81";

    /** Of all letters those alone may come behind such a start, whatever came behind them. */
    private static void mayCome(String start, String letters) {
        for (int letter = 0; letter <= 255; letter++) {
            GoneOverboard x = Check.told(start);
            x.write(letter);
            boolean fits = x.fault() != start.length();
            Check.must(fits == letters.indexOf(letter) >= 0, letter + " behind " + start + (fits ? " fits" : " does not"));
        }
    }

    private static void faultOf(String text, int want) {
        Check.due("fault of " + text, Check.told(text).fault(), want);
        Check.unchanged(x -> Check.tell(x, text), "fault of " + text, GoneOverboard::fault, want);
        boolean isSearch = Check.told(text).search() >= 0;
        Check.must(isSearch == (want == Check.NONE), text + (isSearch ? " is a search" : " is no search"));
    }

    private static void lettersOutside() {
        Check.sentence("A letter (0 to 255) comes behind THE TEXT: how long it is. OUTSIDE");
        for (int letter = 0; letter <= 255; letter++) {
            Check.due("write " + letter, new GoneOverboard().write(letter), 1);
        }
        for (int letter : Check.beside(0, 255)) {
            Check.unchanged(Check::busy, "write " + letter, x -> x.write(letter), Check.OUTSIDE);
            Check.unchanged(x -> { }, "write " + letter, x -> x.write(letter), Check.OUTSIDE);
        }
    }

    private static void fullText() {
        Check.sentence("THE TEXT is letters (40 at most) .. FULL: there are 40.");
        GoneOverboard x = new GoneOverboard();
        for (int k = 1; k <= 40; k++) {
            Check.due("write", x.write('S'), k);
        }
        Check.due("write the 41st", x.write('S'), Check.FULL);
        Check.due("how long it is", x.count(0), 40);
        Check.due("wipe", x.wipe(), 40);
        Check.due("write anew", x.write('S'), 1);
        String forty = NINE_CELLS + "T00F91";
        Check.unchanged(y -> Check.tell(y, forty), "write the 41st", y -> y.write('A'), Check.FULL);
        Check.due("search of 40 letters", Check.made(forty).weight(9), 1);
    }

    private static void outsideAheadOfFull() {
        Check.sentence("REFUSALS, of several the first that a call names");
        for (int letter : Check.beside(0, 255)) {
            Check.unchanged(x -> Check.tell(x, NINE_CELLS + "T00F91"), "write " + letter, x -> x.write(letter), Check.OUTSIDE);
        }
    }

    private static void emptyText() {
        Check.sentence("THE TEXT is empty: how long it was.");
        GoneOverboard x = new GoneOverboard();
        Check.due("wipe of none", x.wipe(), 0);
        x.write('S');
        Check.due("wipe of one", x.wipe(), 1);
        Check.due("wipe again", x.wipe(), 0);
        Check.due("fault", x.fault(), 0);
        Check.due("count", x.count(0), 0);
        x = Check.made(SHIP);
        x.look(0);
        x.wipe();
        Check.due("the search stays", x.weight(10), 400);
        Check.due("the act stays", x.undo(), 0);
        Check.due("search of none", x.search(), Check.STATE);
    }

    private static void newObject() {
        Check.sentence("Nothing to look for.");
        GoneOverboard x = new GoneOverboard();
        for (int place = 0; place <= 10; place++) {
            Check.due("weight " + place, x.weight(place), 0);
            Check.due("likely " + place, x.likely(place, true), Check.STATE);
        }
        Check.due("likeliest", x.likeliest(), Check.NONE);
        Check.due("lanes", x.lanes(), 0);
        Check.due("trust", x.trust(0, 9, 5, false), Check.STATE);
        Check.due("trials", x.trials(30, 4, 0), 0);
        Check.due("keep", x.keep(1), 0);
        Check.due("again", x.again(1), 0);
        Check.sentence("At first it is S000001.");
        x = new GoneOverboard();
        long[] counts = {0, 0, 0, 0, 0, 1, 0, 0, 0, 0, 0, Check.NONE};
        for (int what = 0; what < counts.length; what++) {
            Check.due("count " + what, x.count(what), counts[what]);
        }
        GoneOverboard told = Check.made("S000001");
        told.wipe();
        String got = Check.seen(x);
        Check.must(got.equals(Check.seen(told)), "a new object is " + got);
    }

    private static void head() {
        Check.sentence("A SEARCH is a TEXT: S");
        mayCome("", "S");
        Check.sentence("ON, BACK (tenths, 0 to 9 each, 10 at most together)");
        mayCome("S", DIGITS);
        for (int on = 0; on <= 9; on++) {
            mayCome("S" + on, DIGITS.substring(0, Math.min(10 - on, 9) + 1));
        }
        Check.sentence("SEES (tenths, 0 to 9), FINDS (tenths, 0 to 9), BEGIN (a CELL)");
        mayCome("S91", DIGITS);
        mayCome("S190", DIGITS);
        mayCome("S0099", DIGITS);
        Check.sentence("LASTS (1 to 6)");
        mayCome("S00999", "123456");
        Check.sentence("then PARTS, none or more");
        for (int lasts = 1; lasts <= 6; lasts++) {
            faultOf("S00000" + lasts, Check.NONE);
            mayCome("S00000" + lasts, "FAT");
        }
    }

    private static void partsOfCells() {
        Check.sentence("HE may have gone over at CELL c (each once), by w parts (1 to 9)");
        mayCome("S000001F", DIGITS);
        mayCome("S000001F0", PARTS);
        mayCome("S000001F9", PARTS);
        mayCome("S000001F09", "FAT");
        for (int cell = 0; cell <= 9; cell++) {
            mayCome("S000001F" + cell + "1F", DIGITS.replace("" + cell, ""));
            mayCome(Check.ALL_CELLS.replace("F" + cell + "1", "") + "F", "" + cell);
        }
        faultOf(Check.ALL_CELLS, Check.NONE);
        mayCome(Check.ALL_CELLS, "AT");
    }

    private static void partAboard() {
        Check.sentence("HE may be ABOARD, by w parts (1 to 9; once at most)");
        mayCome("S000001A", PARTS);
        mayCome("S000001A9", "FT");
        mayCome("S000001A1F01T00", "F");
        faultOf("S000001A1", Check.NONE);
        faultOf("S000001A1A", 9);
    }

    private static void partOfTheSecond() {
        Check.sentence("a SECOND ship is at CELL c from STEP h on (0 to 6; once at most)");
        mayCome("S000001T", DIGITS);
        mayCome("S000001T0", "0123456");
        mayCome("S000001T9", "0123456");
        mayCome("S000001T96", "FA");
        mayCome("S000001T00F91A1", "F");
        faultOf("S000001T06", Check.NONE);
        faultOf("S000001T07", 9);
    }

    private static void theFirstFault() {
        Check.sentence("the first letter by which THE TEXT can be no SEARCH, whatever came behind it");
        String[] behind = {"", "S", "0", "1", "F", "A1", "S000001", "\u00ff"};
        for (String more : behind) {
            faultOf("s" + more, 0);
            faultOf("S92" + more, 2);
            faultOf("S000000" + more, 6);
            faultOf("S0000011" + more, 7);
            faultOf("S000001F01F0" + more, 11);
            faultOf("S000001A0" + more, 8);
            faultOf("S000001T07" + more, 9);
            faultOf(Check.ALL_CELLS + "F" + (more.length() > 2 ? "" : more), 37);
        }
        faultOf("S99000000", 2);
        faultOf("00000000", 0);
    }

    private static void notAtItsEnd() {
        Check.sentence("its length, if it is only not at its end; NONE: none");
        for (int length = 0; length <= SHIP.length(); length++) {
            boolean ends = length == 7 || length == 10 || length == 13 || length == 16 || length >= 18 && length % 3 == 0;
            faultOf(SHIP.substring(0, length), ends ? Check.NONE : length);
        }
    }

    private static void lengthSetAside() {
        Check.sentence("(its length set aside)");
        faultOf(Check.ALL_CELLS + "A1T", 40);
        faultOf(NINE_CELLS + "A1T00F", 40);
        faultOf(NINE_CELLS + "T00F9", 39);
        faultOf(NINE_CELLS + "T00F91", Check.NONE);
        faultOf(Check.ALL_CELLS + "T00", Check.NONE);
        faultOf(Check.ALL_CELLS + "T07", 39);
    }

    private static void allToldParts() {
        Check.sentence("all told parts together");
        Check.due("none", Check.told("S000001").search(), 0);
        Check.due("the second is none", Check.told("S000001T96").search(), 0);
        Check.due("one", Check.told("S000001F91").search(), 1);
        Check.due("aboard", Check.told("S000001A9").search(), 9);
        Check.due("the most", Check.told("S000001F09F19F29F39F49F59F69F79F89F99A9").search(), 99);
    }

    private static void searchWithAFault() {
        Check.sentence("STATE: a FAULT.");
        String[] faulty = {"", "S", "S00000", "S000000", "S92", "S000001F", "S000001F0", "S000001X", "S000001A1A1"};
        for (String text : faulty) {
            Check.unchanged(x -> {
                Check.busy(x);
                Check.tellAnew(x, text);
            }, "search of " + text, GoneOverboard::search, Check.STATE);
        }
        Check.unchanged(x -> { }, "search of a new object", GoneOverboard::search, Check.STATE);
    }

    private static void madeAnew() {
        Check.sentence("THE SHIP is at BEGIN, THE STEP is 0, nobody was HEARD, when THE SEARCH is made anew.");
        GoneOverboard x = new GoneOverboard();
        Check.busy(x);
        Check.due("search", x.search(), 5 + 2 + 7);
        Check.due("the ship", x.count(6), 9);
        Check.due("the step", x.count(7), 0);
        Check.due("witnesses", x.count(8), 0);
        Check.due("said", x.said(0), 0);
        Check.weights("as told", x, 0, 5, 0, 0, 0, 0, 2, 0, 0, 0, 7);
        Check.due("the second is none", x.count(11), Check.NONE);
        x.look(2);
        x.hear(0, 0, 1);
        x.search();
        Check.weights("as told again", x, 0, 5, 0, 0, 0, 0, 2, 0, 0, 0, 7);
        Check.due("the ship again", x.count(6), 9);
        Check.sentence("THE TEXT (that stays as it is)");
        Check.due("the text", x.count(0), 15);
        Check.due("no fault", x.fault(), Check.NONE);
        x.write('F');
        Check.due("a letter behind it", x.fault(), 16);
        Check.due("the search stays", x.weight(10), 7);
    }

    private static void goneAndStaying() {
        Check.sentence("THE ROW of ACTS is empty, what was kept is gone; THE SEED stays");
        GoneOverboard x = new GoneOverboard();
        Check.busy(x);
        x.search();
        Check.due("acts", x.count(9), 0);
        Check.due("undo", x.undo(), Check.STATE);
        Check.due("again 0", x.again(0), Check.STATE);
        Check.due("again 1", x.again(1), Check.STATE);
        Check.due("seed", x.seed(1), 77);
        Check.tellAnew(x, Check.ALL_CELLS + "A1");
        x.search();
        Check.tellAnew(x, "S000001");
        Check.due("no parts", x.search(), 0);
        Check.weights("no parts are left", x, 0, 0, 0, 0, 0, 0, 0, 0, 0, 0, 0);
        Check.due("no parts are told", x.trust(0, 9, 5, true), Check.STATE);
    }

    private static void lastCall() {
        Check.sentence("An object is used for at most 512 calls after it has been made");
        GoneOverboard x = Check.made("S000006F01");
        for (int k = 11; k < 511; k += 2) {
            Check.due("look", x.look(0), 0);
            Check.due("undo", x.undo(), 0);
        }
        Check.due("the 512th call", x.weight(0), 1);
    }

    private static void numbers() {
        Check.sentence("UNKNOWN = -1, OUTSIDE = -2, STATE = -3, FULL = -4, NONE = -9");
        Check.due("UNKNOWN", GoneOverboard.UNKNOWN, -1);
        Check.due("OUTSIDE", GoneOverboard.OUTSIDE, -2);
        Check.due("STATE", GoneOverboard.STATE, -3);
        Check.due("FULL", GoneOverboard.FULL, -4);
        Check.due("NONE", GoneOverboard.NONE, -9);
    }

    public static void main(String[] args) {
        numbers();
        lettersOutside();
        fullText();
        outsideAheadOfFull();
        emptyText();
        newObject();
        head();
        partsOfCells();
        partAboard();
        partOfTheSecond();
        theFirstFault();
        notAtItsEnd();
        lengthSetAside();
        allToldParts();
        searchWithAFault();
        madeAnew();
        goneAndStaying();
        lastCall();
        Check.end();
    }
}
