// Each promise by hand-reckoned answers: ordinary calls, the edges that the document names, wrong calls.
public final class PromiseTests {
    private static final String SHIP = "S315635F23F35F51A4T72";
    private static final String ALL_CELLS = "S000001F01F11F21F31F41F51F61F71F81F91";
    private static final int UNKNOWN = -1, OUTSIDE = -2, STATE = -3, FULL = -4, NONE = -9;

    private static int wrong = 0;

    private static void due(String call, long got, long want) {
        if (got != want) {
            wrong++;
            System.out.println(call + " answered " + got + ", due is " + want);
        }
    }

    private static void fraction(String call, long above, long below, long wantAbove, long wantBelow) {
        due(call + " above", above, wantAbove);
        due(call + " below", below, wantBelow);
    }

    private static void tell(GoneOverboard x, String text) {
        x.wipe();
        for (int k = 0; k < text.length(); k++) {
            x.write(text.charAt(k));
        }
    }

    private static GoneOverboard made(String text) {
        GoneOverboard x = new GoneOverboard();
        tell(x, text);
        if (x.search() < 0) {
            wrong++;
            System.out.println(text + " is no search");
        }
        return x;
    }

    private static void weights(String call, GoneOverboard x, long... want) {
        for (int place = 0; place < want.length; place++) {
            due(call + " weight " + place, x.weight(place), want[place]);
        }
    }

    private static void newObject() {
        GoneOverboard x = new GoneOverboard();
        long[] counts = {0, 0, 0, 0, 0, 1, 0, 0, 0, 0, 0, NONE};
        for (int what = 0; what < counts.length; what++) {
            due("1 count " + what, x.count(what), counts[what]);
        }
        weights("1", x, 0, 0, 0, 0, 0, 0, 0, 0, 0, 0, 0);
        due("1 fault", x.fault(), 0);
        due("1 undo", x.undo(), STATE);
        due("1 again", x.again(0), STATE);
        due("1 seed", x.seed(0), 0);
        due("1 one look stands", x.look(1), 1);
        due("1 and no more", x.look(1), STATE);
    }

    private static void write() {
        GoneOverboard x = new GoneOverboard();
        due("2 write", x.write(0), 1);
        due("2 write", x.write(255), 2);
        due("2 below", x.write(-1), OUTSIDE);
        due("2 above", x.write(256), OUTSIDE);
        due("2 refused changes nothing", x.count(0), 2);
        for (int k = 3; k <= 40; k++) {
            due("2 write", x.write('S'), k);
        }
        due("2 full", x.write('S'), FULL);
        due("2 the first refusal", x.write(256), OUTSIDE);
        due("2 full changes nothing", x.count(0), 40);
    }

    private static void wipe() {
        GoneOverboard x = made(SHIP);
        due("3 wipe", x.wipe(), 21);
        due("3 wipe again", x.wipe(), 0);
        due("3 the text is empty", x.fault(), 0);
        due("3 the search stays", x.weight(3), 5);
        due("3 write anew", x.write('S'), 1);
    }

    private static void faultOf(String text, int want) {
        GoneOverboard x = new GoneOverboard();
        tell(x, text);
        due("4 fault of " + text, x.fault(), want);
        due("4 and again of " + text, x.fault(), want);
        due("5 search of " + text, x.search() >= 0 ? 1 : 0, want == NONE ? 1 : 0);
    }

    private static void fault() {
        Object[] table = {
            "", 0, "S", 1, "s", 0, "F", 0, "SX00001", 1, "S:00001", 1, "S/00001", 1, "S00000", 6, "S000001", NONE,
            "S91", 3, "S910001", NONE, "S92", 2, "S550001", NONE, "S560001", 2, "S0A", 2, "S990001", 2,
            "S00A0001", 3, "S000/001", 4, "S0000:01", 5, "S009991", NONE, "S000000", 6, "S000006", NONE,
            "S000007", 6, "S0000019", 7, "S000001X", 7, "S000001S", 7, "S000001\u00e9", 7,
            "S000001F", 8, "S000001FF", 8, "S000001F:", 8, "S000001F0", 9, "S000001F00", 9, "S000001F0A", 9,
            "S000001F99", NONE, "S000001F01F12", NONE, "S000001F01F02", 11, "S000001F01F12F1", 14,
            "S000001A", 8, "S000001A0", 8, "S000001A9", NONE, "S000001A1A", 9, "S000001A1A1", 9, "S000001A1F01T06", NONE,
            "S000001T", 8, "S000001TT", 8, "S000001T9", 9, "S000001T96", NONE, "S000001T97", 9, "S000001T9F", 9,
            "S000001T96T", 10, "S000001T96A1T", 12, ALL_CELLS, NONE, ALL_CELLS + "F", 37, ALL_CELLS + "F0", 37,
            ALL_CELLS + "A1", NONE, ALL_CELLS + "T06", NONE, ALL_CELLS + "A1T", 40, ALL_CELLS + "A1F", 39,
            "X00000000", 0, "S99000000", 2,
        };
        for (int k = 0; k < table.length; k += 2) {
            faultOf((String) table[k], (Integer) table[k + 1]);
        }
    }

    private static void search() {
        GoneOverboard x = new GoneOverboard();
        tell(x, SHIP);
        due("5 search", x.search(), 13);
        due("5 the text stays", x.count(0), 21);
        long[] counts = {21, 3, 1, 5, 6, 5, 3, 0, 0, 0, 44, 7};
        for (int what = 0; what < counts.length; what++) {
            due("5 count " + what, x.count(what), counts[what]);
        }
        weights("5", x, 0, 0, 3, 5, 0, 1, 0, 0, 0, 0, 4);
        x.seed(77);
        x.hear(0, 1, 2);
        x.look(1);
        x.keep(0);
        tell(x, "S00000");
        due("5 a fault", x.search(), STATE);
        due("5 refused changes nothing", x.count(9), 2);
        due("5 the step stays", x.count(7), 1);
        due("5 what was kept stays", x.again(0), 1);
        x.write('2');
        due("5 no parts", x.search(), 0);
        due("5 the step", x.count(7), 0);
        due("5 the ship", x.count(6), 0);
        due("5 the second", x.count(11), NONE);
        due("5 nobody was heard", x.count(8), 0);
        due("5 no acts", x.count(9), 0);
        due("5 nothing to undo", x.undo(), STATE);
        due("5 nothing is kept", x.again(0), STATE);
        due("5 the seed stays", x.seed(0), 77);
        weights("5 anew", x, 0, 0, 0, 0, 0, 0, 0, 0, 0, 0, 0);
    }

    private static void look() {
        GoneOverboard x = made(SHIP);
        due("6 way below", x.look(-1), OUTSIDE);
        due("6 way above", x.look(3), OUTSIDE);
        due("6 refused changes nothing", x.count(7), 0);
        due("6 look back", x.look(2), 2);
        weights("6", x, 0, 15, 140, 345, 160, 60, 30, 0, 0, 0, 400);
        due("6 the step", x.count(7), 1);
        due("6 look on", x.look(1), 3);
        due("6 look there", x.look(0), 3);
        x = made("S463002F01F91");
        due("6 back at the end", x.look(2), 0);
        // 7 tenths are left of 0 of which 6 stay by the tide back; 4 of 9's stay by the tide on
        weights("6 ends", x, 42, 28, 0, 0, 0, 0, 0, 0, 60, 40, 0);
        due("6 the last look", x.look(0), 0);
        weights("6 he does not last", x, 0, 0, 0, 0, 0, 0, 0, 0, 0, 0, 0);
        due("6 none is left", x.look(0), STATE);
        due("6 the first refusal", x.look(3), OUTSIDE);
        x = made("S000096F91");
        due("6 on at the end", x.look(1), 9);
        due("6 and back", x.look(2), 8);
        due("6 and on", x.look(1), 9);
    }

    private static void lookAboard() {
        GoneOverboard x = made("S000752F01A2");
        due("7 look aboard", x.lookAboard(), 1);
        weights("7", x, 100, 0, 0, 0, 0, 0, 0, 0, 0, 0, 60);
        due("7 the ship stays", x.count(6), 5);
        due("7 look aboard again", x.lookAboard(), 2);
        weights("7 last", x, 0, 0, 0, 0, 0, 0, 0, 0, 0, 0, 1800);
        due("7 none is left", x.lookAboard(), STATE);
        due("7 refused changes nothing", x.weight(10), 1800);
        x = made("S310771F41A1");
        x.lookAboard();
        weights("7 of 1", x, 0, 0, 0, 0, 0, 0, 0, 0, 0, 0, 30);
    }

    private static void hear() {
        GoneOverboard x = made("S000002F01F42F53F91A2");
        int[][] outside = {{-1, 3, 5}, {10, 10, 5}, {4, 3, 5}, {4, 10, 5}, {0, 9, 0}, {0, 9, 10}, {-1, -1, 5}};
        for (int[] call : outside) {
            due("8 outside", x.hear(call[0], call[1], call[2]), OUTSIDE);
        }
        due("8 refused changes nothing", x.count(8), 0);
        due("8 hear", x.hear(4, 5, 7), 1);
        weights("8", x, 3, 0, 0, 0, 14, 21, 0, 0, 0, 3, 10);
        due("8 hear another", x.hear(9, 9, 1), 2);
        weights("8 two", x, 27, 0, 0, 0, 126, 189, 0, 0, 0, 3, 50);
        due("8 full", x.hear(0, 0, 1), FULL);
        due("8 outside goes first", x.hear(0, 0, 0), OUTSIDE);
        x.look(0);
        due("8 a step went by", x.hear(0, 0, 1), STATE);
        due("8 outside goes first again", x.hear(5, 4, 1), OUTSIDE);
        x.undo();
        x.undo();
        due("8 hear, undone", x.hear(0, 9, 9), 2);
    }

    private static void undo() {
        GoneOverboard x = made(SHIP);
        x.hear(2, 3, 8);
        x.hear(5, 5, 2);
        x.look(1);
        x.lookAboard();
        x.look(2);
        x.look(2);
        x.look(2);
        due("9 acts", x.count(9), 7);
        due("9 the ship", x.count(6), 1);
        due("9 undo the last step", x.undo(), 6);
        due("9 the weights are back", x.weight(3) > 0 ? 1 : 0, 1);
        due("9 undo", x.undo(), 5);
        due("9 undo", x.undo(), 4);
        due("9 the ship is back", x.count(6), 4);
        due("9 the step is back", x.count(7), 2);
        due("9 undo", x.undo(), 3);
        due("9 undo", x.undo(), 2);
        weights("9", x, 0, 0, 192, 320, 0, 4, 0, 0, 0, 0, 100);
        due("9 undo", x.undo(), 1);
        weights("9 one witness", x, 0, 0, 24, 40, 0, 2, 0, 0, 0, 0, 20);
        due("9 one witness", x.count(8), 1);
        due("9 undo", x.undo(), 0);
        weights("9 none", x, 0, 0, 3, 5, 0, 1, 0, 0, 0, 0, 4);
        due("9 none", x.undo(), STATE);
        x.look(0);
        x.look(9);
        due("9 what is refused is no act", x.undo(), 0);
        x = made("S000006F01");
        x.hear(0, 0, 1);
        x.hear(0, 0, 1);
        for (int k = 0; k < 6; k++) {
            x.look(0);
        }
        for (int k = 7; k >= 0; k--) {
            due("9 all eight", x.undo(), k);
        }
        due("9 back at the start", x.weight(0), 1);
    }

    private static void weight() {
        GoneOverboard x = made(SHIP);
        weights("10", x, 0, 0, 3, 5, 0, 1, 0, 0, 0, 0, 4);
        due("10 below", x.weight(-1), OUTSIDE);
        due("10 above", x.weight(11), OUTSIDE);
        // the most that a weight can be
        x = made("S000906F09A9");
        x.hear(0, 0, 9);
        x.hear(0, 9, 9);
        for (int k = 0; k < 5; k++) {
            x.look(1);
        }
        due("10 great", x.weight(0), 9L * 81 * 10_000_000_000L);
        due("10 great aboard", x.weight(10), 9L * 25 * 10_000_000_000L);
    }

    private static void likely() {
        GoneOverboard x = made("S000002F02F14A6");
        fraction("11 cell", x.likely(0, true), x.likely(0, false), 1, 6);
        fraction("11 aboard", x.likely(10, true), x.likely(10, false), 1, 2);
        fraction("11 not there", x.likely(5, true), x.likely(5, false), 0, 1);
        due("11 below", x.likely(-1, true), OUTSIDE);
        due("11 above", x.likely(11, false), OUTSIDE);
        x = new GoneOverboard();
        due("11 nothing", x.likely(0, true), STATE);
        due("11 nothing", x.likely(10, false), STATE);
        due("11 outside goes first", x.likely(11, true), OUTSIDE);
    }

    private static void likeliest() {
        due("12 cell", made(SHIP).likeliest(), 3);
        due("12 the least of like ones", made("S000001F85F25A5").likeliest(), 2);
        due("12 aboard", made("S000001F85F25A6").likeliest(), 10);
        due("12 cell before aboard", made("S000001F96A6").likeliest(), 9);
        due("12 nowhere", new GoneOverboard().likeliest(), NONE);
    }

    private static void by() {
        GoneOverboard x = made(SHIP);
        fraction("13 stays", x.by(1, 0, true), x.by(1, 0, false), 5, 26);
        fraction("13 on", x.by(1, 1, true), x.by(1, 1, false), 0, 1);
        fraction("13 back", x.by(1, 2, true), x.by(1, 2, false), 3, 26);
        fraction("13 aboard", x.by(1, 3, true), x.by(1, 3, false), 12, 65);
        // of 13 parts: 5 / 2 at 3; then at 4 half of what the tide sets there, 3 / 10 of 5 / 2 and 1 / 10 of 1
        fraction("13 two", x.by(2, 1, true), x.by(2, 1, false), 9, 40);
        fraction("13 aboard twice", x.by(2, 33, true), x.by(2, 33, false), 84, 325);
        // of 13 parts: 1.5 at 2; half of 3.45 at 3; 2.4 and 0.96 aboard
        fraction("13 four", x.by(4, 2133, true), x.by(4, 2133, false), 1317, 2600);
        int[][] outside = {{0, 0}, {5, 0}, {1, 4}, {1, 10}, {2, 100}, {1, -1}, {3, 40}, {4, 1213 + 3000 + 4000}, {-1, 0}};
        for (int[] call : outside) {
            due("13 outside " + call[0] + " " + call[1], x.by(call[0], call[1], true), OUTSIDE);
        }
        due("13 nothing changes", x.weight(3), 5);
        x.look(0);
        x.look(0);
        due("13 three are left", x.by(3, 0, true) > 0 ? 1 : 0, 1);
        due("13 four are not", x.by(4, 0, true), STATE);
        due("13 outside goes first", x.by(4, 4, true), OUTSIDE);
        due("13 nothing", new GoneOverboard().by(1, 0, false), STATE);
        x = made("S009991F91");
        fraction("13 the last look finds", x.by(1, 1, true), x.by(1, 1, false), 9, 10);
    }

    private static void best() {
        GoneOverboard x = made(SHIP);
        fraction("14 one", x.best(1, true), x.best(1, false), 5, 26);
        fraction("14 two", x.best(2, true), x.best(2, false), 49, 130);
        fraction("14 four", x.best(4, true), x.best(4, false), 353, 650);
        due("14 below", x.best(0, true), OUTSIDE);
        due("14 above", x.best(5, true), OUTSIDE);
        x.look(0);
        x.look(0);
        due("14 four are not left", x.best(4, true), STATE);
        due("14 nothing", new GoneOverboard().best(1, false), STATE);
        due("14 outside goes first", new GoneOverboard().best(5, false), OUTSIDE);
        x = made("S000901F31A5");
        fraction("14 aboard", x.best(1, true), x.best(1, false), 3, 4);
    }

    private static void bestRow() {
        GoneOverboard x = made(SHIP);
        due("15 one", x.bestRow(1), 0);
        due("15 two", x.bestRow(2), 3);
        due("15 four", x.bestRow(4), 33);
        due("15 below", x.bestRow(0), OUTSIDE);
        due("15 above", x.bestRow(5), OUTSIDE);
        due("15 nothing", new GoneOverboard().bestRow(1), STATE);
        due("15 aboard first", made("S000901F31A5").bestRow(1), 3);
        // two looks back from 4 find him at 2
        due("15 back twice", made("S009042F21").bestRow(2), 22);
        due("15 on thrice", made("S009043F71").bestRow(3), 111);
        due("15 the first of like rows", made("S009001A1").bestRow(1), 0);
        due("15 the sea before aboard", made("S009901F01A1").bestRow(1), 0);
        x.look(0);
        x.look(0);
        due("15 four are not left", x.bestRow(4), STATE);
    }

    private static void soon() {
        GoneOverboard x = made("S005003F01");
        due("16 as likely", x.soon(5), 1);
        due("16 likelier", x.soon(6), 2);
        due("16 three", x.soon(8), 3);
        due("16 never", x.soon(9), NONE);
        due("16 below", x.soon(0), OUTSIDE);
        due("16 above", x.soon(11), OUTSIDE);
        x.look(0);
        x.look(0);
        due("16 one is left", x.soon(5), 1);
        due("16 as far as he lasts", x.soon(6), NONE);
        x.look(0);
        due("16 nowhere", x.soon(1), STATE);
        due("16 outside goes first", x.soon(0), OUTSIDE);
        due("16 no look is left", aboardToTheLast().soon(1), NONE);
        due("16 four at most", made("S002006F01").soon(6), NONE);
        due("16 four", made("S002006F01").soon(5), 4);
    }

    private static GoneOverboard aboardToTheLast() {
        GoneOverboard x = made("S000501A1");
        x.look(0);
        return x;
    }

    private static void first() {
        GoneOverboard x = made(SHIP);
        fraction("17 below 0", x.first(1, true), x.first(1, false), -1, 130);
        due("17 three", x.first(3, true), -37);
        x = made("S004801F01A1");
        fraction("17 above 0", x.first(1, true), x.first(1, false), 1, 5);
        x = made("S004401F01A1");
        fraction("17 alike", x.first(1, true), x.first(1, false), 0, 1);
        due("17 below", x.first(0, true), OUTSIDE);
        due("17 above", x.first(5, true), OUTSIDE);
        due("17 not left", x.first(2, true), STATE);
        due("17 nothing", new GoneOverboard().first(1, true), STATE);
    }

    private static void withSecond() {
        GoneOverboard x = made("S009901F01F91A2T90");
        // 9 tenths of 2 of 4 aboard, 9 tenths of 1 by the second
        fraction("18 one", x.withSecond(1, true), x.withSecond(1, false), 27, 40);
        due("18 below", x.withSecond(0, true), OUTSIDE);
        due("18 above", x.withSecond(3, true), OUTSIDE);
        due("18 not left", x.withSecond(2, true), STATE);
        x = made("S009001F01T00");
        fraction("18 both at one cell", x.withSecond(1, true), x.withSecond(1, false), 99, 100);
        x = made("S009001F01T01");
        fraction("18 not there yet", x.withSecond(1, true), x.withSecond(1, false), 9, 10);
        x = made("S009002F21T31");
        // the ship can not be at 2 by the second look but by two on; the second looks at the second look
        fraction("18 comes by then", x.withSecond(2, true), x.withSecond(2, false), 99, 100);
        x.look(0);
        fraction("18 ahead of the first of these", x.withSecond(1, true), x.withSecond(1, false), 9, 10);
        due("18 not left, one look gone", x.withSecond(2, true), STATE);
        due("18 no second", made("S009002F21").withSecond(1, true), STATE);
        due("18 outside goes first", made("S009002F21").withSecond(3, true), OUTSIDE);
        due("18 nothing", made("S009002T21").withSecond(1, true), STATE);
        x = made("S009001F91T90");
        fraction("18 from its cell", x.withSecond(1, true), x.withSecond(1, false), 9, 10);
        x = made("S009001F71T90");
        fraction("18 too far", x.withSecond(1, true), x.withSecond(1, false), 0, 1);
        x = made("S009002F81T60");
        // on twice: it looks at 7, then at 8
        fraction("18 goes on from where it was", x.withSecond(2, true), x.withSecond(2, false), 9, 10);
    }

    private static void lanes() {
        due("19 nothing", new GoneOverboard().lanes(), 0);
        due("19 where it is", made("S000031F31").lanes(), 0);
        due("19 aboard", made("S000031A1").lanes(), 0);
        due("19 on", made("S000031F71").lanes(), 4);
        due("19 back", made("S000031F31F01").lanes(), 3);
        due("19 the nearer first", made("S000031F01F91").lanes(), 12);
        due("19 the nearer first above", made("S000061F01F91").lanes(), 12);
        due("19 between", made("S000001F11F21F91").lanes(), 9);
        due("19 ship", made(SHIP).lanes(), 4);
        GoneOverboard x = made("S150002F51");
        due("19 before the tide", x.lanes(), 5);
        x.look(0);
        due("19 behind the tide", x.lanes(), 6);
    }

    private static void judge() {
        GoneOverboard x = made(SHIP);
        due("20 the tide goes on", x.judge(4, 2222), NONE);
        due("20 too long", x.judge(8, 22222222), 5);
        due("20 aboard", x.judge(5, 33333), NONE);
        due("20 another figure", x.judge(3, 334), 2);
        due("20 the first", x.judge(3, 944), 0);
        due("20 no weight", x.judge(2, 13), 0);
        due("20 leading 0", x.judge(3, 9), 2);
        due("20 none aboard", made("S000006F01").judge(2, 3), 1);
        due("20 at the end", made("S000006F01").judge(6, 222222), NONE);
        due("20 lasts six", made("S000006F01").judge(7, 222222), 6);
        due("20 below", x.judge(0, 0), OUTSIDE);
        due("20 above", x.judge(9, 0), OUTSIDE);
        due("20 row below", x.judge(1, -1), OUTSIDE);
        due("20 row too long", x.judge(1, 10), OUTSIDE);
        due("20 row of eight too long", x.judge(8, 100000000), OUTSIDE);
        due("20 row of eight", x.judge(8, 99999999), 0);
        due("20 nothing changes", x.weight(3), 5);
        x.look(0);
        due("20 from now on", x.judge(8, 0), 4);
        due("20 nothing", new GoneOverboard().judge(1, 0), 0);
    }

    private static void said() {
        GoneOverboard x = made(SHIP);
        due("21 none", x.said(0), 0);
        x.hear(2, 3, 8);
        due("21 one", x.said(0), 7);
        due("21 not the other", x.said(1), 0);
        x.hear(5, 9, 2);
        due("21 the other", x.said(1), -7);
        due("21 below", x.said(-1), OUTSIDE);
        due("21 above", x.said(2), OUTSIDE);
        x.look(0);
        due("21 told parts, whatever weights are", x.said(0), 7);
        x.undo();
        x.undo();
        due("21 undone", x.said(1), 0);
        due("21 the one stays", x.said(0), 7);
    }

    private static void trust() {
        GoneOverboard x = made(SHIP);
        fraction("22 trust", x.trust(2, 3, 8, true), x.trust(2, 3, 8, false), 32, 43);
        x.hear(2, 2, 9);
        x.look(0);
        fraction("22 as told", x.trust(2, 3, 8, true), x.trust(2, 3, 8, false), 32, 43);
        fraction("22 elsewhere", x.trust(6, 9, 8, true), x.trust(6, 9, 8, false), 0, 1);
        due("22 nothing changes", x.count(8), 1);
        int[][] outside = {{-1, 3, 5}, {10, 10, 5}, {4, 3, 5}, {4, 10, 5}, {0, 9, 0}, {0, 9, 10}};
        for (int[] call : outside) {
            due("22 outside", x.trust(call[0], call[1], call[2], true), OUTSIDE);
            due("22 outside goes first", new GoneOverboard().trust(call[0], call[1], call[2], true), OUTSIDE);
        }
        due("22 nothing", new GoneOverboard().trust(0, 9, 5, true), STATE);
        x = made("S000001A3");
        fraction("22 aboard alone", x.trust(0, 9, 5, true), x.trust(0, 9, 5, false), 0, 1);
    }

    private static void seed() {
        GoneOverboard x = new GoneOverboard();
        due("23 at first", x.seed(Long.MIN_VALUE), 0);
        due("23 then", x.seed(-1), Long.MIN_VALUE);
        due("23 then", x.seed(0), -1);
    }

    private static void trials() {
        GoneOverboard x = made(SHIP);
        x.seed(5);
        due("24 trials", x.trials(30, 4, 2222), 3);
        due("24 the seed", x.seed(5), 5863989493479878172L);
        due("24 one", x.trials(1, 1, 3), 0);
        due("24 nothing else changes", x.count(7), 0);
        x.look(1);
        x.hear(0, 1, 2);
        x.seed(5);
        due("24 as told, from the beginning", x.trials(30, 4, 2222), 3);
        int[][] outside = {{0, 1, 0}, {31, 1, 0}, {1, 0, 0}, {1, 5, 0}, {1, 1, 4}, {1, 1, 10}, {1, 1, -1}, {1, 3, 400}};
        x.seed(9);
        for (int[] call : outside) {
            due("24 outside", x.trials(call[0], call[1], call[2]), OUTSIDE);
        }
        due("24 refused draws nothing", x.seed(9), 9);
        due("24 no parts", new GoneOverboard().trials(30, 4, 0), 0);
        GoneOverboard none = new GoneOverboard();
        none.seed(3);
        none.trials(1, 1, 0);
        due("24 nothing is drawn", none.seed(0), 3);
        x = made("S000001A1");
        x.seed(0);
        x.trials(1, 4, 0);
        // where he is, and one look: no tide moves him aboard, and he lasts one step
        due("24 two draws", x.seed(0), 1442695040888963407L * 6364136223846793005L + 1442695040888963407L);
        x = made("S009001F01");
        x.seed(0);
        // the first look finds him unless the figure drawn is 9
        int finds = x.trials(30, 1, 0);
        due("24 most are found", finds > 20 && finds <= 30 ? 1 : 0, 1);
    }

    private static void slots() {
        GoneOverboard x = made(SHIP);
        due("25 below", x.keep(-1), UNKNOWN);
        due("25 above", x.keep(2), UNKNOWN);
        due("26 below", x.again(-1), UNKNOWN);
        due("26 above", x.again(2), UNKNOWN);
        due("26 none were kept", x.again(1), STATE);
        x.hear(2, 3, 8);
        due("25 keep", x.keep(0), 0);
        due("25 the acts stay", x.count(9), 1);
        x.hear(5, 9, 2);
        x.look(2);
        due("25 keep", x.keep(1), 1);
        x.look(2);
        due("26 again", x.again(0), 0);
        weights("26", x, 0, 0, 24, 40, 0, 2, 0, 0, 0, 0, 20);
        due("26 the ship", x.count(6), 3);
        due("26 witnesses", x.count(8), 1);
        due("26 what he said", x.said(0), 7);
        due("26 no acts", x.count(9), 0);
        due("26 nothing to undo", x.undo(), STATE);
        x.hear(0, 0, 5);
        due("26 another said", x.said(1), -9);
        due("26 the other", x.again(1), 1);
        due("26 the ship", x.count(6), 2);
        due("26 the other's witness", x.said(1), -7);
        due("26 it stays kept", x.again(0), 0);
        due("26 and again", x.again(0), 0);
        x.look(0);
        due("25 keep anew", x.keep(0), 1);
        due("26 anew", x.again(0), 1);
        x = made(SHIP);
        x.hear(2, 3, 8);
        x.keep(0);
        x.undo();
        x.hear(5, 9, 2);
        due("26 another said it meanwhile", x.said(0), -7);
        x.again(0);
        due("26 who said it is kept", x.said(0), 7);
    }

    private static void count() {
        GoneOverboard x = made("S127436F01F91A3T45");
        x.hear(0, 0, 5);
        x.look(1);
        long[] counts = {18, 1, 2, 7, 4, 6, 4, 1, 1, 2, 1 + 2 + 256 + 512, 4};
        for (int what = 0; what < counts.length; what++) {
            due("27 count " + what, x.count(what), counts[what]);
        }
        due("27 below", x.count(-1), OUTSIDE);
        due("27 above", x.count(12), OUTSIDE);
    }

    public static void main(String[] args) {
        due("UNKNOWN", GoneOverboard.UNKNOWN, UNKNOWN);
        due("OUTSIDE", GoneOverboard.OUTSIDE, OUTSIDE);
        due("STATE", GoneOverboard.STATE, STATE);
        due("FULL", GoneOverboard.FULL, FULL);
        due("NONE", GoneOverboard.NONE, NONE);
        newObject();
        write();
        wipe();
        fault();
        search();
        look();
        lookAboard();
        hear();
        undo();
        weight();
        likely();
        likeliest();
        by();
        best();
        bestRow();
        soon();
        first();
        withSecond();
        lanes();
        judge();
        said();
        trust();
        seed();
        trials();
        slots();
        count();
        System.out.println(wrong == 0 ? "all answers are as due" : wrong + " answers are not as due");
        if (wrong != 0) {
            System.exit(1);
        }
    }
}
