// Edges of weights, acts, slots and counts (promises 6 to 10, 25 to 27): a test for each sentence that names one.
public final class ActEdgeTests {
    private static void wayOutside() {
        Check.sentence("OUTSIDE: way (0 stays, 1 on, 2 back)");
        for (int way : Check.beside(0, 2)) {
            Check.unchanged(Check::busy, "look " + way, x -> x.look(way), Check.OUTSIDE);
            Check.unchanged(ActEdgeTests::atLasts, "look at LASTS " + way, x -> x.look(way), Check.OUTSIDE);
        }
        int[] cells = {4, 5, 3};
        for (int way = 0; way <= 2; way++) {
            Check.due("look " + way, Check.made("S000041").look(way), cells[way]);
        }
    }

    /** An act is made with two witnesses heard, and nobody looks any more. */
    private static void atLasts(GoneOverboard x) {
        Check.tell(x, "S125642F35F91A4T50");
        x.search();
        x.hear(2, 3, 8);
        x.hear(9, 9, 1);
        x.look(1);
        x.keep(1);
        x.lookAboard();
    }

    private static void ends() {
        Check.sentence("THE SHIP goes on (to the next greater CELL), back, or stays (no farther than 0, 9)");
        for (int cell = 0; cell <= 9; cell++) {
            Check.due("stays at " + cell, Check.made("S0000" + cell + "1").look(0), cell);
            Check.due("on from " + cell, Check.made("S0000" + cell + "1").look(1), cell == 9 ? 9 : cell + 1);
            Check.due("back from " + cell, Check.made("S0000" + cell + "1").look(2), cell == 0 ? 0 : cell - 1);
        }
        GoneOverboard x = Check.made("S009092F91F81");
        Check.due("on at 9", x.look(1), 9);
        Check.weights("looks at 9", x, 0, 0, 0, 0, 0, 0, 0, 0, 100, 10, 0);
        Check.due("the ship is there", x.count(6), 9);
        x = Check.made("S009002F01F11");
        Check.due("back at 0", x.look(2), 0);
        Check.weights("looks at 0", x, 10, 100, 0, 0, 0, 0, 0, 0, 0, 0, 0);
        Check.due("the ship is there", x.count(6), 0);
    }

    private static void seesLeastAndMost() {
        Check.sentence("the WEIGHT of that CELL is times 10 less SEES, all others (ABOARD, too) are times 10");
        GoneOverboard x = Check.made("S000942F31F43F51A2");
        x.look(0);
        Check.weights("SEES 0", x, 0, 0, 0, 100, 300, 100, 0, 0, 0, 0, 200);
        x = Check.made("S001942F31F43F51A2");
        x.look(0);
        Check.weights("SEES 1", x, 0, 0, 0, 100, 270, 100, 0, 0, 0, 0, 200);
        x = Check.made("S009042F31F43F51A2");
        x.look(0);
        Check.weights("SEES 9", x, 0, 0, 0, 100, 30, 100, 0, 0, 0, 0, 200);
    }

    private static void findsLeastAndMost() {
        Check.sentence("the WEIGHT of ABOARD is times 10 less FINDS, all others times 10; THE SHIP stays.");
        GoneOverboard x = Check.made("S009042F31F43A2");
        Check.due("FINDS 0", x.lookAboard(), 1);
        Check.weights("FINDS 0", x, 0, 0, 0, 100, 300, 0, 0, 0, 0, 0, 200);
        x = Check.made("S009142F31F43A2");
        x.lookAboard();
        Check.weights("FINDS 1", x, 0, 0, 0, 100, 300, 0, 0, 0, 0, 0, 180);
        x = Check.made("S009942F31F43A2");
        x.lookAboard();
        Check.weights("FINDS 9", x, 0, 0, 0, 100, 300, 0, 0, 0, 0, 0, 20);
        Check.due("the ship", x.count(6), 4);
        for (int cell = 0; cell <= 9; cell++) {
            x = Check.made("S9190" + cell + "6");
            x.lookAboard();
            Check.due("the ship stays at " + cell, x.count(6), cell);
        }
    }

    private static void tideAtEnds() {
        Check.sentence("from 9 it stays), back by BACK (from 0 it stays), what is left of 10 stays");
        GoneOverboard x = Check.made("S000002F01F41F91A1");
        x.look(0);
        Check.weights("no tide", x, 100, 0, 0, 0, 100, 0, 0, 0, 0, 100, 100);
        x = Check.made("S900002F01F41F91A1");
        x.look(0);
        Check.weights("ON 9", x, 10, 90, 0, 0, 10, 90, 0, 0, 0, 100, 100);
        x = Check.made("S090002F01F41F91A1");
        x.look(0);
        Check.weights("BACK 9", x, 100, 0, 0, 90, 10, 0, 0, 0, 90, 10, 100);
        x = Check.made("S910002F01F41F91A1");
        x.lookAboard();
        Check.weights("ON 9, BACK 1", x, 10, 90, 0, 10, 0, 90, 0, 0, 10, 90, 100);
        x = Check.made("S190002F01F41F91A1");
        x.lookAboard();
        Check.weights("BACK 9, ON 1", x, 90, 10, 0, 90, 0, 10, 0, 0, 90, 10, 100);
        x = Check.made("S550002F11F81");
        x.look(0);
        Check.weights("to the ends", x, 50, 0, 50, 0, 0, 0, 0, 50, 0, 50, 0);
        x = Check.made("S340002F01F12F23F34F45F56F67F78F89F91A9");
        x.look(0);
        // 10 times: each cell's 3 tenths of the one before it and 4 of the one behind it
        Check.weights("all cells", x, 150, 210, 310, 410, 510, 610, 710, 810, 550, 330, 900);
    }

    private static void lastStep() {
        Check.sentence("THE STEP is one more; at LASTS all WEIGHTS of CELLS are 0");
        for (int lasts = 1; lasts <= 6; lasts++) {
            GoneOverboard x = Check.made("S00000" + lasts + "F02F91A3");
            long power = 1;
            for (int step = 1; step <= lasts; step++) {
                x.look(0);
                power *= 100;
                boolean last = step == lasts;
                Check.due("the step", x.count(7), step);
                Check.due("at 0 of " + lasts, x.weight(0), last ? 0 : 2 * power);
                Check.due("at 9 of " + lasts, x.weight(9), last ? 0 : power);
                Check.due("aboard of " + lasts, x.weight(10), 3 * power);
                Check.due("bits", x.count(10), last ? 0 : 1 + 512);
            }
            x = Check.made("S00000" + lasts + "F02A3");
            for (int step = 1; step <= lasts; step++) {
                Check.due("aboard", x.lookAboard(), step);
                Check.must((x.weight(0) == 0) == (step == lasts), "weight at " + step + " of " + lasts);
            }
        }
    }

    private static void nobodyLooksAtLasts() {
        Check.sentence("At LASTS nobody looks any more.");
        for (int lasts = 1; lasts <= 6; lasts++) {
            String text = "S12345" + lasts + "F02A3";
            int before = lasts - 1;
            Check.Run toLasts = x -> {
                Check.tell(x, text);
                x.search();
                Check.look(x, 1, before);
                x.lookAboard();
            };
            for (int way = 0; way <= 2; way++) {
                int by = way;
                Check.unchanged(toLasts, "look " + way, x -> x.look(by), Check.STATE);
            }
            Check.unchanged(toLasts, "lookAboard", GoneOverboard::lookAboard, Check.STATE);
            GoneOverboard x = Check.made(text);
            Check.look(x, 0, before);
            Check.due("the last look", x.look(0), 5);
            x.undo();
            Check.due("the last look aboard", x.lookAboard(), lasts);
        }
        Check.unchanged(ActEdgeTests::atLasts, "look", x -> x.look(0), Check.STATE);
        Check.unchanged(ActEdgeTests::atLasts, "lookAboard", GoneOverboard::lookAboard, Check.STATE);
    }

    private static void saidOutside() {
        Check.sentence("OUTSIDE: i, j (i to 9), x");
        Check.Run told = x -> {
            Check.tell(x, "S315635F23F35A4");
            x.search();
            x.hear(0, 3, 2);
        };
        Check.Run[] states = {told, Check::busy, ActEdgeTests::atLasts, ActEdgeTests::twoHeard, x -> { }};
        for (Check.Run before : states) {
            for (int number : Check.beside(0, 9)) {
                Check.unchanged(before, "hear i " + number, x -> x.hear(number, 9, 5), Check.OUTSIDE);
                Check.unchanged(before, "hear j " + number, x -> x.hear(0, number, 5), Check.OUTSIDE);
                Check.unchanged(before, "hear both " + number, x -> x.hear(number, number, 5), Check.OUTSIDE);
            }
            for (int tenths : Check.beside(1, 9)) {
                Check.unchanged(before, "hear x " + tenths, x -> x.hear(0, 9, tenths), Check.OUTSIDE);
            }
            for (int j = 0; j < 9; j++) {
                int below = j;
                Check.unchanged(before, "hear j below i", x -> x.hear(below + 1, below, 5), Check.OUTSIDE);
            }
            Check.unchanged(before, "hear all of it", x -> x.hear(10, 11, 10), Check.OUTSIDE);
        }
        for (int i = 0; i <= 9; i++) {
            for (int j = i; j <= 9; j++) {
                Check.due("hear " + i + " " + j, Check.made("S000001F01").hear(i, j, 5), 1);
            }
        }
    }

    private static void believedLeastAndMost() {
        Check.sentence("WEIGHTS of CELLS i to j are times x, of other CELLS times 10 less x; of ABOARD times 5");
        String text = "S000001F02F41F53F91A4";
        int[][] said = {{0, 0, 1}, {0, 0, 9}, {9, 9, 1}, {9, 9, 9}, {0, 9, 1}, {0, 9, 9}, {4, 5, 8}, {5, 5, 5}, {6, 8, 9}};
        for (int[] call : said) {
            GoneOverboard x = Check.made(text);
            x.hear(call[0], call[1], call[2]);
            int[] parts = {2, 0, 0, 0, 1, 3, 0, 0, 0, 1};
            for (int cell = 0; cell <= 9; cell++) {
                boolean named = cell >= call[0] && cell <= call[1];
                Check.due("cell " + cell, x.weight(cell), parts[cell] * (named ? call[2] : 10 - call[2]));
            }
            Check.due("aboard", x.weight(10), 20);
            Check.due("the step", x.count(7), 0);
            Check.due("the ship", x.count(6), 0);
        }
    }

    private static void twoHeard(GoneOverboard x) {
        Check.tell(x, "S315635F23F35A4");
        x.search();
        x.hear(0, 3, 2);
        x.keep(0);
        x.hear(4, 9, 7);
    }

    private static void twoAtMost() {
        Check.sentence("2 at most. .. FULL: 2.");
        GoneOverboard x = Check.made("S000002F11A1");
        Check.due("one", x.hear(1, 1, 2), 1);
        Check.due("two", x.hear(1, 1, 3), 2);
        Check.due("three", x.hear(1, 1, 4), Check.FULL);
        Check.weights("two", x, 0, 6, 0, 0, 0, 0, 0, 0, 0, 0, 25);
        Check.unchanged(ActEdgeTests::twoHeard, "hear the third", y -> y.hear(0, 9, 5), Check.FULL);
        x.undo();
        Check.due("one is undone", x.hear(0, 0, 1), 2);
        x.keep(0);
        x.again(0);
        Check.due("two were kept", x.hear(0, 0, 1), Check.FULL);
    }

    private static void nobodyIsHeardLater() {
        Check.sentence("if no STEP went by yet .. STATE: THE STEP is above 0; FULL: 2.");
        for (int steps = 1; steps <= 5; steps++) {
            int many = steps;
            Check.unchanged(x -> {
                Check.tell(x, "S315635F23F35A4");
                x.search();
                Check.look(x, 1, many);
            }, "hear behind a look", x -> x.hear(0, 9, 5), Check.STATE);
        }
        Check.unchanged(x -> {
            Check.tell(x, "S315635F23F35A4");
            x.search();
            x.hear(0, 9, 5);
            x.lookAboard();
        }, "hear behind a look aboard", x -> x.hear(0, 9, 5), Check.STATE);
        Check.unchanged(ActEdgeTests::atLasts, "hear the third behind a look", x -> x.hear(0, 9, 5), Check.STATE);
        GoneOverboard x = Check.made("S315635F23F35A4");
        x.keep(0);
        x.look(0);
        x.undo();
        Check.due("the look is undone", x.hear(0, 9, 5), 1);
        x.look(0);
        x.again(0);
        Check.due("gone on from the beginning", x.hear(0, 9, 5), 1);
    }

    private static void undoOfEach() {
        Check.sentence("ACTS (LOOKED, LOOKED ABOARD, HEARD) are a row; the last one can be undone.");
        Check.Run[] acts = {x -> x.look(0), x -> x.look(1), x -> x.look(2), GoneOverboard::lookAboard, x -> x.hear(2, 4, 9)};
        for (Check.Run act : acts) {
            GoneOverboard x = Check.made("S315635F23F35F51A4T72");
            x.hear(3, 5, 2);
            act.on(x);
            Check.due("undo", x.undo(), 1);
            Check.weights("undone", x, 0, 0, 24, 10, 0, 2, 0, 0, 0, 0, 20);
            Check.due("the ship", x.count(6), 3);
            Check.due("the step", x.count(7), 0);
            Check.due("witnesses", x.count(8), 1);
            Check.due("said", x.said(0), 3);
        }
        Check.sentence("The last ACT is undone: how many are left. STATE: there is none.");
        GoneOverboard x = Check.made("S000006F01");
        x.hear(0, 0, 1);
        x.hear(0, 9, 1);
        Check.look(x, 0, 5);
        x.lookAboard();
        Check.due("the most acts", x.count(9), 8);
        for (int left = 7; left >= 0; left--) {
            Check.due("undo", x.undo(), left);
            Check.due("left", x.count(9), left);
            Check.due("the step of " + left, x.count(7), Math.max(left - 2, 0));
            Check.due("witnesses of " + left, x.count(8), Math.min(left, 2));
        }
        Check.due("undo of none", x.undo(), Check.STATE);
        Check.weights("as told", x, 1, 0);
    }

    private static void undoOfNone() {
        Check.sentence("STATE: there is none.");
        Check.unchanged(x -> { }, "undo, new", GoneOverboard::undo, Check.STATE);
        Check.unchanged(x -> {
            Check.busy(x);
            x.again(1);
        }, "undo, gone on", GoneOverboard::undo, Check.STATE);
        Check.unchanged(x -> {
            Check.busy(x);
            x.search();
        }, "undo, made anew", GoneOverboard::undo, Check.STATE);
        Check.unchanged(x -> {
            Check.busy(x);
            for (int k = 0; k < 4; k++) {
                x.undo();
            }
        }, "undo, all undone", GoneOverboard::undo, Check.STATE);
        Check.sentence("What is refused changes nothing.");
        GoneOverboard x = Check.made("S000001F01");
        x.look(3);
        x.hear(0, 0, 0);
        Check.due("what is refused is no act", x.undo(), Check.STATE);
    }

    private static void weightOutside() {
        Check.sentence("WEIGHT of a CELL (0 to 9), or of ABOARD (10). OUTSIDE.");
        for (int place : Check.beside(0, 10)) {
            Check.unchanged(Check::busy, "weight " + place, x -> x.weight(place), Check.OUTSIDE);
        }
        GoneOverboard x = Check.made("S000001F01F12F23F34F45F56F67F78F89F98A7");
        Check.weights("told", x, 1, 2, 3, 4, 5, 6, 7, 8, 9, 8, 7);
        Check.sentence("long weight(int place)");
        x = Check.made("S000906F09A9");
        x.hear(0, 0, 9);
        x.hear(0, 9, 9);
        Check.look(x, 1, 5);
        Check.due("the greatest of a cell", x.weight(0), 7_290_000_000_000L);
        x.lookAboard();
        Check.due("aboard", x.weight(10), 22_500_000_000_000L);
    }

    private static void slotsUnknown() {
        Check.sentence("UNKNOWN (there is no such SLOT) .. SLOTS 0 to 1");
        for (int slot : Check.beside(0, 1)) {
            Check.unchanged(Check::busy, "keep " + slot, x -> x.keep(slot), Check.UNKNOWN);
            Check.unchanged(Check::busy, "again " + slot, x -> x.again(slot), Check.UNKNOWN);
            Check.unchanged(x -> { }, "again of none " + slot, x -> x.again(slot), Check.UNKNOWN);
        }
        for (int slot = 31; slot <= 33; slot++) {
            int far = slot;
            Check.unchanged(Check::busy, "again " + slot, x -> x.again(far), Check.UNKNOWN);
        }
    }

    private static void noneWereKept() {
        Check.sentence("STATE: none were kept.");
        for (int slot = 0; slot <= 1; slot++) {
            int one = slot;
            Check.unchanged(x -> { }, "again, new", x -> x.again(one), Check.STATE);
            Check.unchanged(x -> x.keep(1 - one), "again, the other was kept", x -> x.again(one), Check.STATE);
            Check.unchanged(x -> {
                Check.busy(x);
                x.search();
                x.look(0);
            }, "again, made anew", x -> x.again(one), Check.STATE);
        }
    }

    private static void keptAndGoneOnFrom() {
        Check.sentence("SLOTS 0 to 1 keep WEIGHTS, THE SHIP, THE STEP, WITNESSES");
        for (int slot = 0; slot <= 1; slot++) {
            GoneOverboard x = Check.made("S100045F42F51A4");
            x.hear(0, 4, 9);
            x.look(1);
            Check.due("keep", x.keep(slot), 1);
            Check.due("keep the other", x.keep(1 - slot), 1);
            x.undo();
            x.undo();
            x.hear(5, 9, 3);
            x.hear(0, 0, 1);
            x.look(2);
            x.look(2);
            Check.due("keep the other anew", x.keep(1 - slot), 2);
            Check.due("again", x.again(slot), 1);
            Check.weights("kept", x, 0, 0, 0, 0, 1620, 270, 10, 0, 0, 0, 2000);
            Check.due("the ship", x.count(6), 5);
            Check.due("the step", x.count(7), 1);
            Check.due("witnesses", x.count(8), 1);
            Check.due("what he said", x.said(0), 1);
            Check.due("the other", x.again(1 - slot), 2);
            Check.due("the ship", x.count(6), 2);
            Check.due("witnesses", x.count(8), 2);
            Check.due("what he said", x.said(0), -1);
            Check.due("what the other said", x.said(1), -3);
            Check.due("it stays kept", x.again(slot), 1);
        }
    }

    private static void rowEmptyWhenGoneOn() {
        Check.sentence("(THE ROW of ACTS is empty when one goes on)");
        GoneOverboard x = Check.made("S000006F01");
        x.look(0);
        x.look(0);
        Check.due("keep", x.keep(0), 2);
        Check.due("the row stays when kept", x.count(9), 2);
        Check.due("undo", x.undo(), 1);
        Check.due("again", x.again(0), 2);
        Check.due("the row is empty", x.count(9), 0);
        Check.due("undo of none", x.undo(), Check.STATE);
        x.look(0);
        Check.due("undo of what came behind", x.undo(), 0);
        Check.due("the step", x.count(7), 2);
    }

    private static void countOutside() {
        Check.sentence("11 the CELL of the SECOND ship (NONE: there is none). OUTSIDE.");
        for (int what : Check.beside(0, 11)) {
            Check.unchanged(Check::busy, "count " + what, x -> x.count(what), Check.OUTSIDE);
        }
        Check.due("none", Check.made("S000001F01").count(11), Check.NONE);
        Check.due("the least", Check.made("S000001T06").count(11), 0);
        Check.due("the greatest", Check.made("S000001T90").count(11), 9);
    }

    private static void countLeastAndMost() {
        Check.sentence("0 letters of THE TEXT, 1 ON, 2 BACK, 3 SEES, 4 FINDS, 5 LASTS, 6 where THE SHIP is");
        long[][] heads = {{0, 0, 0, 0, 1, 0}, {9, 1, 9, 9, 6, 9}, {1, 9, 8, 7, 5, 1}, {9, 0, 1, 2, 3, 8}};
        for (long[] head : heads) {
            GoneOverboard x = Check.made("S" + head[0] + head[1] + head[2] + head[3] + head[5] + head[4]);
            Check.due("letters", x.count(0), 7);
            for (int what = 1; what <= 6; what++) {
                Check.due("count " + what, x.count(what), head[what - 1]);
            }
        }
        Check.sentence("10 CELLS that have a WEIGHT (bits)");
        Check.due("all", Check.made(Check.ALL_CELLS).count(10), 1023);
        Check.due("aboard is no cell", Check.made("S000001A9").count(10), 0);
        for (int cell = 0; cell <= 9; cell++) {
            Check.due("cell " + cell, Check.made("S000001F" + cell + "1").count(10), 1 << cell);
        }
        GoneOverboard x = Check.made("S100006F01F91");
        Check.look(x, 0, 5);
        Check.due("set on by the tide", x.count(10), 63 + 512);
    }

    public static void main(String[] args) {
        wayOutside();
        ends();
        seesLeastAndMost();
        findsLeastAndMost();
        tideAtEnds();
        lastStep();
        nobodyLooksAtLasts();
        saidOutside();
        believedLeastAndMost();
        twoAtMost();
        nobodyIsHeardLater();
        undoOfEach();
        undoOfNone();
        weightOutside();
        slotsUnknown();
        noneWereKept();
        keptAndGoneOnFrom();
        rowEmptyWhenGoneOn();
        countOutside();
        countLeastAndMost();
        Check.end();
    }
}
