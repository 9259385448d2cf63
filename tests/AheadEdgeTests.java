// Edges of where he is, and of looks ahead (promises 11 to 20): a test for each sentence that names one.
public final class AheadEdgeTests {
    /** Where nothing is left: at LASTS, nobody aboard. */
    private static void nothingLeft(GoneOverboard x) {
        Check.tell(x, "S125641F35F91T50");
        x.search();
        x.hear(2, 3, 8);
        x.keep(0);
        x.look(1);
    }

    /** At LASTS, but he may be aboard. */
    private static void aboardLeft(GoneOverboard x) {
        Check.tell(x, "S125642F35F91A4T50");
        x.search();
        x.look(1);
        x.lookAboard();
    }

    private static void outside(String call, Check.Call made) {
        refused(call, made, Check.OUTSIDE, Check::busy, x -> { }, AheadEdgeTests::nothingLeft, AheadEdgeTests::aboardLeft);
    }

    private static void state(String call, Check.Call made, Check.Run... states) {
        refused(call, made, Check.STATE, states);
    }

    private static void refused(String call, Check.Call made, int want, Check.Run... states) {
        for (Check.Run before : states) {
            Check.unchanged(before, call, made, want);
        }
    }

    private static void nothingIsChanged() {
        Check.sentence("In what follows nothing is changed.");
        String[] names = {"likely", "likeliest", "by", "best", "bestRow", "soon", "first", "withSecond", "lanes", "judge",
            "said", "trust", "weight", "count", "fault"};
        Check.Call[] calls = {x -> x.likely(3, true), GoneOverboard::likeliest, x -> x.by(3, 123, false),
            x -> x.best(3, true), x -> x.bestRow(3), x -> x.soon(9), x -> x.first(3, true), x -> x.withSecond(2, true),
            GoneOverboard::lanes, x -> x.judge(8, 22222222), x -> x.said(1), x -> x.trust(2, 3, 8, true),
            x -> x.weight(10), x -> x.count(10), GoneOverboard::fault};
        for (int k = 0; k < calls.length; k++) {
            GoneOverboard x = new GoneOverboard();
            Check.busy(x);
            long first = calls[k].on(x);
            Check.due(names[k] + " again", calls[k].on(x), first);
            Check.unchanged(Check::busy, names[k], calls[k], first);
        }
    }

    private static void likelyOutside() {
        Check.sentence("LIKELY. OUTSIDE: place (0 to 10); STATE: all WEIGHTS are 0.");
        for (boolean upper : Check.BOTH) {
            for (int place : Check.beside(0, 10)) {
                outside("likely " + place, x -> x.likely(place, upper));
            }
            for (int place = 0; place <= 10; place++) {
                int there = place;
                state("likely " + place, x -> x.likely(there, upper), x -> { }, AheadEdgeTests::nothingLeft);
            }
        }
        GoneOverboard x = Check.made("S000001F01F91A2");
        Check.fraction("0", x.likely(0, true), x.likely(0, false), 1, 4);
        Check.fraction("9", x.likely(9, true), x.likely(9, false), 1, 4);
        Check.fraction("aboard", x.likely(10, true), x.likely(10, false), 1, 2);
        x = new GoneOverboard();
        aboardLeft(x);
        Check.fraction("aboard alone is left", x.likely(10, true), x.likely(10, false), 1, 1);
    }

    private static void fractions() {
        Check.sentence("FRACTIONS are told above (upper = true), below (1 and more), in least terms");
        GoneOverboard x = Check.made("S000001F09F93");
        Check.fraction("least terms", x.likely(0, true), x.likely(0, false), 3, 4);
        Check.fraction("none", x.likely(5, true), x.likely(5, false), 0, 1);
        Check.fraction("none aboard", x.likely(10, true), x.likely(10, false), 0, 1);
        Check.fraction("none by a row", x.by(1, 3, true), x.by(1, 3, false), 0, 1);
        x = Check.made("S000001F91");
        Check.fraction("the one part", x.likely(9, true), x.likely(9, false), 1, 1);
        x = Check.made("S000001F97");
        Check.fraction("all", x.likely(9, true), x.likely(9, false), 1, 1);
        Check.sentence("as longs");
        x = Check.made("S303006F01F91");
        Check.look(x, 0, 5);
        // at 0 are 49 of 100 for each look, what went on is not looked at
        Check.fraction("long", x.likely(0, true), x.likely(0, false), 282_475_249L, 14_283_808_970L);
        Check.sentence("refusals of them are told likewise");
        for (boolean upper : Check.BOTH) {
            GoneOverboard none = new GoneOverboard();
            Check.due("likely", none.likely(11, upper), Check.OUTSIDE);
            Check.due("likely", none.likely(0, upper), Check.STATE);
            Check.due("by", none.by(1, 4, upper), Check.OUTSIDE);
            Check.due("by", none.by(1, 0, upper), Check.STATE);
            Check.due("best", none.best(0, upper), Check.OUTSIDE);
            Check.due("best", none.best(1, upper), Check.STATE);
            Check.due("first", none.first(0, upper), Check.OUTSIDE);
            Check.due("first", none.first(1, upper), Check.STATE);
            Check.due("withSecond", none.withSecond(0, upper), Check.OUTSIDE);
            Check.due("withSecond", none.withSecond(1, upper), Check.STATE);
            Check.due("trust", none.trust(0, 0, 0, upper), Check.OUTSIDE);
            Check.due("trust", none.trust(0, 0, 1, upper), Check.STATE);
        }
    }

    private static void likeliest() {
        Check.sentence("Where it is likeliest (the least of like ones); NONE: all WEIGHTS are 0.");
        Check.unchanged(x -> { }, "likeliest, new", GoneOverboard::likeliest, Check.NONE);
        Check.unchanged(AheadEdgeTests::nothingLeft, "likeliest, none left", GoneOverboard::likeliest, Check.NONE);
        Check.unchanged(AheadEdgeTests::aboardLeft, "likeliest, aboard left", GoneOverboard::likeliest, 10);
        Check.due("all alike", Check.made(Check.ALL_CELLS + "A1").likeliest(), 0);
        Check.due("two alike", Check.made("S000001F83F93").likeliest(), 8);
        Check.due("aboard alike", Check.made("S000001A3F93").likeliest(), 9);
        Check.due("aboard more", Check.made("S000001A4F93").likeliest(), 10);
        Check.due("the last cell", Check.made("S000001F02F93").likeliest(), 9);
    }

    private static void rowsOutside() {
        Check.sentence("OUTSIDE: n, row (n figures at most, 0 to 3 each)");
        int[] greatest = {3, 33, 333, 3333};
        int[] tooLong = {10, 100, 1000, 10000};
        for (boolean upper : Check.BOTH) {
            for (int n : Check.beside(1, 4)) {
                outside("by n " + n, x -> x.by(n, 0, upper));
            }
            for (int n = 1; n <= 4; n++) {
                int looks = n;
                for (int row : new int[] {Integer.MIN_VALUE, -1, greatest[n - 1] + 1, tooLong[n - 1], Integer.MAX_VALUE}) {
                    outside("by " + n + " " + row, x -> x.by(looks, row, upper));
                }
                for (int unit = 1; unit < tooLong[n - 1]; unit *= 10) {
                    for (int figure = 4; figure <= 9; figure++) {
                        int row = figure * unit;
                        outside("by " + n + " " + row, x -> x.by(looks, row, upper));
                    }
                }
            }
        }
        for (int n = 1; n <= 4; n++) {
            for (int row = 0; row < tooLong[n - 1]; row++) {
                boolean can = Integer.toString(row).matches("[0-3]*");
                long got = Check.made("S315635F23A4").by(n, row, false);
                Check.must(can ? got > 0 : got == Check.OUTSIDE, "by " + n + " " + row + " answered " + got);
            }
        }
    }

    private static void figuresFromTheFirst() {
        Check.sentence("as figures, the first one's the highest (0 stays, 1 on, 2 back, 3 ABOARD)");
        GoneOverboard x = Check.made("S001944F51F31A3");
        // 1 of 5 parts by a tenth, 3 of 5 parts by nine tenths
        Check.fraction("0", x.by(1, 0, true), x.by(1, 0, false), 0, 1);
        Check.fraction("1", x.by(1, 1, true), x.by(1, 1, false), 1, 50);
        Check.fraction("2", x.by(1, 2, true), x.by(1, 2, false), 1, 50);
        Check.fraction("3", x.by(1, 3, true), x.by(1, 3, false), 27, 50);
        Check.fraction("stays, then on", x.by(2, 1, true), x.by(2, 1, false), 1, 50);
        Check.fraction("on, then stays", x.by(2, 10, true), x.by(2, 10, false), 19, 500);
        Check.fraction("stays thrice, then aboard", x.by(4, 3, true), x.by(4, 3, false), 27, 50);
        Check.fraction("aboard four times", x.by(4, 3333, true), x.by(4, 3333, false), 29997, 50000);
        Check.fraction("nowhere", x.by(4, 0, true), x.by(4, 0, false), 0, 1);
        Check.sentence("(no farther than 0, 9)");
        x = Check.made("S009092F91");
        Check.fraction("on at 9", x.by(2, 11, true), x.by(2, 11, false), 99, 100);
        x = Check.made("S009002F01");
        Check.fraction("back at 0", x.by(2, 22, true), x.by(2, 22, false), 99, 100);
    }

    private static void stepsLeft() {
        Check.sentence("(STATE: all WEIGHTS are 0, or THE STEP and n are more than LASTS)");
        for (int lasts = 1; lasts <= 6; lasts++) {
            for (int step = 0; step <= lasts; step++) {
                String text = "S31564" + lasts + "F45A3T40";
                int steps = step;
                Check.Run before = x -> {
                    Check.tell(x, text);
                    x.search();
                    Check.look(x, 0, steps);
                };
                for (int n = 1; n <= 4; n++) {
                    looksOf(before, n, step + n <= lasts);
                }
            }
        }
        for (int n = 1; n <= 4; n++) {
            looksOf(x -> { }, n, false);
            looksOf(AheadEdgeTests::nothingLeft, n, false);
            looksOf(x -> {
                Check.tell(x, "S315646T40");
                x.search();
            }, n, false);
        }
    }

    private static void looksOf(Check.Run before, int n, boolean left) {
        for (boolean upper : Check.BOTH) {
            leftOrNot(before, "by " + n, x -> x.by(n, 0, upper), left);
            leftOrNot(before, "best " + n, x -> x.best(n, upper), left);
            // the upper one may be any number below 0 that a refusal is, too
            if (!left || !upper) {
                leftOrNot(before, "first " + n, x -> x.first(n, upper), left);
            }
            if (n <= 2) {
                leftOrNot(before, "withSecond " + n, x -> x.withSecond(n, upper), left);
            }
        }
        leftOrNot(before, "bestRow " + n, x -> x.bestRow(n), left);
    }

    private static void leftOrNot(Check.Run before, String call, Check.Call made, boolean left) {
        if (left) {
            GoneOverboard x = new GoneOverboard();
            before.on(x);
            long got = made.on(x);
            Check.must(got != Check.STATE, call + " answered STATE");
        } else {
            state(call, made, before);
        }
    }

    private static void looksOutside() {
        Check.sentence("BEST. OUTSIDE: n .. The first row that is BEST. OUTSIDE .. FIRST. OUTSIDE: n");
        for (int n : Check.beside(1, 4)) {
            for (boolean upper : Check.BOTH) {
                outside("best " + n, x -> x.best(n, upper));
                outside("first " + n, x -> x.first(n, upper));
            }
            outside("bestRow " + n, x -> x.bestRow(n));
        }
        Check.sentence("WITH THE SECOND. OUTSIDE: n");
        for (int n : Check.beside(1, 2)) {
            for (boolean upper : Check.BOTH) {
                outside("withSecond " + n, x -> x.withSecond(n, upper));
            }
        }
        Check.sentence("SOON; NONE. OUTSIDE: x");
        for (int tenths : Check.beside(1, 10)) {
            outside("soon " + tenths, x -> x.soon(tenths));
        }
    }

    private static void firstOfLikeRows() {
        Check.sentence("the greatest such chance; the first such row (as a number)");
        for (int n = 1; n <= 4; n++) {
            GoneOverboard x = Check.made("S000056F53A2");
            Check.due("nothing is seen", x.bestRow(n), 0);
            Check.fraction("nothing is seen", x.best(n, true), x.best(n, false), 0, 1);
        }
        Check.due("the greatest row", Check.made("S000906A1").bestRow(4), 3333);
        Check.due("on four times", Check.made("S009044F81").bestRow(4), 1111);
        Check.due("back four times", Check.made("S009054F11").bestRow(4), 2222);
        Check.due("on or back", Check.made("S009051F41F61").bestRow(1), 1);
        Check.due("stays or on", Check.made("S009051F51F61").bestRow(1), 0);
        Check.due("back or aboard", Check.made("S009951F41A1").bestRow(1), 2);
        Check.due("aboard alone", Check.made("S009951F31A1").bestRow(1), 3);
        Check.due("stays as on at 9", Check.made("S009091F91").bestRow(1), 0);
        Check.due("aboard, then the cell, or not", Check.made("S009952F51A1").bestRow(2), 3);
    }

    private static void bestOfOneToFour() {
        Check.sentence("BEST of n looks (1 to 4): the greatest such chance");
        GoneOverboard x = Check.made("S009504F01A1");
        long[][] due = {{9, 20}, {7, 10}, {33, 40}, {71, 80}};
        int[] rows = {0, 3, 33, 333};
        for (int n = 4; n >= 1; n--) {
            Check.fraction("best " + n, x.best(n, true), x.best(n, false), due[n - 1][0], due[n - 1][1]);
            Check.due("bestRow " + n, x.bestRow(n), rows[n - 1]);
        }
        x = Check.made("S009006F01");
        long below = 1;
        for (int n = 1; n <= 4; n++) {
            below *= 10;
            Check.fraction("best " + n, x.best(n, true), x.best(n, false), below - 1, below);
        }
    }

    private static void soonAsLikely() {
        Check.sentence("the fewest looks .. of which the BEST is as likely or more");
        for (int sees = 1; sees <= 9; sees++) {
            GoneOverboard x = Check.made("S00" + sees + "001F01");
            for (int tenths = 1; tenths <= 10; tenths++) {
                Check.due("soon " + tenths + " by " + sees, x.soon(tenths), tenths <= sees ? 1 : Check.NONE);
            }
        }
        Check.due("three quarters by two", Check.made("S005006F01").soon(7), 2);
        Check.due("seven eighths by three", Check.made("S005006F01").soon(8), 3);
        Check.due("15 of 16 by four", Check.made("S005006F01").soon(9), 4);
        Check.due("never sure", Check.made("S009906F01").soon(10), Check.NONE);
        Check.sentence("(1 to 4, as far as LASTS)");
        Check.due("369 of 625 by four", Check.made("S002006F01").soon(5), 4);
        Check.due("a fifth look would do", Check.made("S002006F01").soon(6), Check.NONE);
        for (int lasts = 1; lasts <= 6; lasts++) {
            // four looks are needed
            int want = lasts >= 4 ? 4 : Check.NONE;
            Check.due("of " + lasts, Check.made("S00500" + lasts + "F01").soon(9), want);
            GoneOverboard x = Check.made("S00050" + lasts + "A1");
            Check.look(x, 0, lasts - 1);
            Check.due("one is left", x.soon(6), Check.NONE);
            Check.due("one does", x.soon(5), 1);
        }
    }

    private static void soonNone() {
        Check.sentence("NONE (no look is left, too) .. STATE: all WEIGHTS are 0.");
        for (int tenths = 1; tenths <= 10; tenths++) {
            int by = tenths;
            Check.unchanged(AheadEdgeTests::aboardLeft, "soon " + tenths, x -> x.soon(by), Check.NONE);
            state("soon " + tenths, x -> x.soon(by), x -> { }, AheadEdgeTests::nothingLeft);
        }
        Check.due("nothing is seen", Check.made("S000006F01A1").soon(1), Check.NONE);
    }

    private static void firstAboard() {
        Check.sentence("a FRACTION (below 0, if it is less: the upper one is)");
        GoneOverboard x = Check.made("S009901F01");
        Check.fraction("less", x.first(1, true), x.first(1, false), -9, 10);
        x = Check.made("S009901F01A1");
        Check.fraction("alike", x.first(1, true), x.first(1, false), 0, 1);
        x = Check.made("S009901A1");
        Check.fraction("more", x.first(1, true), x.first(1, false), 9, 10);
        x = Check.made("S009902F01");
        Check.fraction("one look lost", x.first(2, true), x.first(2, false), -9, 100);
        x = Check.made("S005004F01");
        Check.fraction("the fourth look lost", x.first(4, true), x.first(4, false), -1, 16);
        x = Check.made("S000504A1");
        Check.fraction("the fourth look won", x.first(4, true), x.first(4, false), 1, 16);
        x = Check.made("S000004F01A1");
        Check.fraction("nothing is seen", x.first(4, true), x.first(4, false), 0, 1);
    }

    private static void secondFromItsStep() {
        Check.sentence("if THE STEP is its STEP or later by then; else it stays and does not look");
        // the ship is too far from 0, where the second is or will be; it finds 9 tenths each time
        long[][] byOne = {{9, 10}, {0, 1}, {0, 1}};
        long[][] byTwo = {{99, 100}, {9, 10}, {0, 1}};
        for (int step = 0; step <= 3; step++) {
            for (int from = 0; from <= 6; from++) {
                GoneOverboard x = Check.made("S009096F01T0" + from);
                Check.look(x, 0, step);
                int wait = Math.max(0, Math.min(from - step, 2));
                String call = "from " + from + " at " + step;
                Check.fraction(call, x.withSecond(1, true), x.withSecond(1, false), byOne[wait][0], byOne[wait][1]);
                Check.fraction(call, x.withSecond(2, true), x.withSecond(2, false), byTwo[wait][0], byTwo[wait][1]);
            }
        }
        Check.sentence("(the told one ahead of the first of these looks");
        GoneOverboard x = Check.made("S009006F71T50");
        Check.look(x, 0, 4);
        Check.fraction("one from 5", x.withSecond(1, true), x.withSecond(1, false), 0, 1);
        Check.fraction("two from 5", x.withSecond(2, true), x.withSecond(2, false), 9, 10);
        x = Check.made("S009006F71T51");
        Check.fraction("it stays at 5 at first", x.withSecond(2, true), x.withSecond(2, false), 0, 1);
    }

    private static void secondAtEnds() {
        Check.sentence("(no farther than 0, 9)");
        GoneOverboard x = Check.made("S009052F01T90");
        Check.fraction("not from 9 to 0", x.withSecond(1, true), x.withSecond(1, false), 0, 1);
        x = Check.made("S009042F91T00");
        Check.fraction("not from 0 to 9", x.withSecond(2, true), x.withSecond(2, false), 0, 1);
        x = Check.made("S009042F91T80");
        Check.fraction("on to 9, and there", x.withSecond(2, true), x.withSecond(2, false), 99, 100);
        x = Check.made("S009042F01T10");
        Check.fraction("back to 0, and there", x.withSecond(2, true), x.withSecond(2, false), 99, 100);
    }

    private static void bothAtOneCell() {
        Check.sentence("of one CELL at which both look the WEIGHT is times 10 less SEES twice (all others 100)");
        for (int sees = 0; sees <= 9; sees++) {
            GoneOverboard x = Check.made("S00" + sees + "001F01T00");
            long above = x.withSecond(1, true);
            long below = x.withSecond(1, false);
            Check.due("both by " + sees, above * 100, (100 - (10 - sees) * (10 - sees)) * below);
        }
        GoneOverboard x = Check.made("S005001F03F91A4T00");
        Check.fraction("three of eight", x.withSecond(1, true), x.withSecond(1, false), 9, 32);
        x = Check.made("S005501F03F91A4T00");
        Check.fraction("aboard and the second", x.withSecond(1, true), x.withSecond(1, false), 7, 16);
    }

    private static void shipBesideTheSecond() {
        Check.sentence("THE SHIP by 0 to 3 as above, THE SECOND by 0 to 2 from its CELL");
        // each looks where the other can not come
        long[][] ways = {{4, 8}, {5, 8}, {6, 8}, {10, 8}, {4, 7}, {5, 7}, {6, 7}, {10, 7}, {4, 9}, {5, 9}, {6, 9}, {10, 9}};
        for (long[] way : ways) {
            String his = way[0] == 10 ? "A1" : "F" + way[0] + "1";
            GoneOverboard x = Check.made("S009951F" + way[1] + "1" + his + "F01T80");
            Check.fraction("at " + way[0] + " and " + way[1], x.withSecond(1, true), x.withSecond(1, false), 3, 5);
        }
        Check.sentence("the greatest chance");
        GoneOverboard x = Check.made("S009006F01A9T00");
        Check.fraction("two", x.withSecond(2, true), x.withSecond(2, false), 9999, 100000);
        Check.fraction("one behind two", x.withSecond(1, true), x.withSecond(1, false), 99, 1000);
        Check.look(x, 0, 2);
        Check.fraction("one behind looks", x.withSecond(1, true), x.withSecond(1, false), 99, 90100);
    }

    private static void noSecond() {
        Check.sentence("(STATE: there is no SECOND ship, too)");
        for (boolean upper : Check.BOTH) {
            for (int n = 1; n <= 2; n++) {
                int looks = n;
                state("withSecond " + n, x -> x.withSecond(looks, upper), x -> {
                    Check.tell(x, "S009906F01A1");
                    x.search();
                }, x -> {
                    Check.busy(x);
                    x.search();
                });
            }
        }
        Check.must(Check.made("S009906F01A1T06").withSecond(2, true) > 0, "a second ship that comes late is one");
    }

    private static void lanes() {
        Check.sentence("0: there are none, or that alone");
        Check.unchanged(x -> { }, "lanes, new", GoneOverboard::lanes, 0);
        Check.unchanged(AheadEdgeTests::aboardLeft, "lanes at LASTS", GoneOverboard::lanes, 0);
        for (int cell = 0; cell <= 9; cell++) {
            Check.due("that alone", Check.made("S0000" + cell + "1A1F" + cell + "1").lanes(), 0);
            Check.due("aboard alone", Check.made("S0000" + cell + "1A1").lanes(), 0);
        }
        Check.sentence("how many looks THE SHIP takes at least .. (no look for that where it is now)");
        Check.due("the next", Check.made("S000041F51").lanes(), 1);
        Check.due("the one before", Check.made("S000041F31").lanes(), 1);
        int[] all = {9, 10, 11, 12, 13, 13, 12, 11, 10, 9};
        for (int cell = 0; cell <= 9; cell++) {
            Check.due("from " + cell, Check.made("S0000" + cell + "1F01F91").lanes(), all[cell]);
            Check.due("all from " + cell, Check.made(Check.ALL_CELLS.replace("S00000", "S0000" + cell)).lanes(), all[cell]);
        }
        GoneOverboard x = Check.made("S000016F01F91");
        x.look(1);
        Check.due("from where it is", x.lanes(), 11);
    }

    private static void judgeOutside() {
        Check.sentence("JUDGED; NONE. OUTSIDE: n, row (0 or more, n figures at most).");
        for (int n : Check.beside(1, 8)) {
            outside("judge n " + n, x -> x.judge(n, 0));
        }
        int tooLong = 1;
        for (int n = 1; n <= 8; n++) {
            tooLong *= 10;
            int looks = n;
            for (int row : new int[] {Integer.MIN_VALUE, -1, tooLong, Integer.MAX_VALUE}) {
                outside("judge " + n + " " + row, x -> x.judge(looks, row));
            }
            Check.due("judge " + n + ", the greatest", Check.made("S000006F01A1").judge(n, tooLong - 1), 0);
            Check.due("judge " + n + ", the least", Check.made("S000006F01A1").judge(n, 0), n > 6 ? 6 : Check.NONE);
        }
    }

    private static void judgeFigures() {
        Check.sentence("the first that can not be (another figure; LASTS)");
        for (int figure = 4; figure <= 9; figure++) {
            Check.due("figure " + figure, Check.made(Check.ALL_CELLS).judge(1, figure), 0);
            Check.due("figure " + figure, Check.made("S000006F01").judge(4, figure * 10), 2);
        }
        for (int figure = 0; figure <= 3; figure++) {
            Check.due("figure " + figure, Check.made(Check.ALL_CELLS + "A1").judge(1, figure), Check.NONE);
        }
        for (int lasts = 1; lasts <= 6; lasts++) {
            for (int step = 0; step <= lasts; step++) {
                GoneOverboard x = Check.made("S00000" + lasts + "F01A1");
                Check.look(x, 0, step);
                Check.due("of " + lasts + " at " + step, x.judge(8, 33333333), lasts - step);
                Check.due("of " + lasts + " at " + step, x.judge(8, 0), lasts - step);
                if (step < lasts) {
                    Check.due("as far as " + lasts, x.judge(lasts - step, 0), Check.NONE);
                }
            }
        }
    }

    private static void judgeWhereNoWeightIs() {
        Check.sentence("or that looks where there is no WEIGHT; NONE: none");
        Check.due("no cell", Check.made("S000006F01").judge(3, 1), 2);
        Check.due("none aboard", Check.made("S000006F01").judge(3, 30), 1);
        Check.due("aboard alone", Check.made("S000006A1").judge(3, 330), 2);
        Check.due("nothing at all", new GoneOverboard().judge(8, 0), 0);
        Check.due("no farther than 0", Check.made("S000006F01").judge(6, 222222), Check.NONE);
        Check.due("no farther than 9", Check.made("S000096F91").judge(6, 111111), Check.NONE);
        Check.due("where the tide sets him", Check.made("S100006F01").judge(6, 11111), Check.NONE);
        Check.due("ahead of the tide", Check.made("S100006F01").judge(6, 111111), 0);
        Check.unchanged(Check::busy, "judge", x -> x.judge(2, 3), Check.NONE);
    }

    public static void main(String[] args) {
        nothingIsChanged();
        likelyOutside();
        fractions();
        likeliest();
        rowsOutside();
        figuresFromTheFirst();
        stepsLeft();
        looksOutside();
        firstOfLikeRows();
        bestOfOneToFour();
        soonAsLikely();
        soonNone();
        firstAboard();
        secondFromItsStep();
        secondAtEnds();
        bothAtOneCell();
        shipBesideTheSecond();
        noSecond();
        lanes();
        judgeOutside();
        judgeFigures();
        judgeWhereNoWeightIs();
        Check.end();
    }
}
