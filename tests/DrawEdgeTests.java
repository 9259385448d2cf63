import java.math.BigInteger;

// Edges of witnesses and trials (promises 21 to 24): a test for each sentence that names one.
public final class DrawEdgeTests {
    private static final long TIMES = 6364136223846793005L;
    private static final long AND = 1442695040888963407L;

    private static long next(long seed) {
        BigInteger next = BigInteger.valueOf(seed).multiply(BigInteger.valueOf(TIMES)).add(BigInteger.valueOf(AND));
        return next.longValue();
    }

    private static long after(long seed, int draws) {
        long state = seed;
        for (int k = 0; k < draws; k++) {
            state = next(state);
        }
        return state;
    }

    /** The seed of which the next one is this. */
    private static long before(long state) {
        BigInteger all = BigInteger.TWO.pow(64);
        BigInteger back = BigInteger.valueOf(TIMES).modInverse(all);
        return BigInteger.valueOf(state).subtract(BigInteger.valueOf(AND)).multiply(back).longValue();
    }

    private static long upper(long state) {
        return BigInteger.valueOf(state).mod(BigInteger.TWO.pow(64)).shiftRight(33).longValueExact();
    }

    /** A seed by which these are drawn: the part first, of so many, then figures. */
    private static long seedFor(int parts, int... lots) {
        for (long tried = 1; tried < 20_000_000; tried++) {
            long state = next(tried);
            boolean fits = upper(state) % parts == lots[0];
            for (int k = 1; k < lots.length && fits; k++) {
                state = next(state);
                fits = upper(state) % 10 == lots[k];
            }
            if (fits) {
                return tried;
            }
        }
        Check.must(false, "no such seed");
        return 0;
    }

    /** One trial by draws that are told; just so many are drawn. */
    private static void trial(String text, int n, int row, boolean found, int... lots) {
        GoneOverboard x = Check.made(text);
        long seed = seedFor(partsOf(x), lots);
        x.seed(seed);
        StringBuilder call = new StringBuilder(text).append(" row ").append(row).append(" by");
        for (int lot : lots) {
            call.append(' ').append(lot);
        }
        Check.due(call.toString(), x.trials(1, n, row), found ? 1 : 0);
        Check.due(call + ", the seed", x.seed(0), after(seed, lots.length));
    }

    private static int partsOf(GoneOverboard x) {
        long parts = 0;
        for (int place = 0; place <= 10; place++) {
            parts += x.weight(place);
        }
        return (int) parts;
    }

    private static void noSuchWitness() {
        Check.sentence("0: there is no such WITNESS.");
        for (int witness = 0; witness <= 1; witness++) {
            int one = witness;
            Check.unchanged(x -> { }, "said, new", x -> x.said(one), 0);
            Check.unchanged(x -> {
                Check.busy(x);
                x.search();
            }, "said, nobody was heard", x -> x.said(one), 0);
        }
        GoneOverboard x = Check.made("S000002F12F93A4");
        x.hear(0, 5, 9);
        Check.due("the first", x.said(0), -1);
        Check.due("the second is none", x.said(1), 0);
        x.hear(9, 9, 1);
        Check.due("the second", x.said(1), 1);
        x.undo();
        Check.due("the second is undone", x.said(1), 0);
        x.undo();
        Check.due("the first is undone", x.said(0), 0);
        Check.sentence("WHO SAID IT. OUTSIDE: witness (0, 1).");
        for (int witness : Check.beside(0, 1)) {
            Check.unchanged(x1 -> { }, "said " + witness, y -> y.said(witness), Check.OUTSIDE);
            Check.unchanged(Check::busy, "said " + witness, y -> y.said(witness), Check.OUTSIDE);
        }
    }

    private static void saidOfAllAndNone() {
        Check.sentence("how many told parts (of F; not ABOARD's) are in the CELLS that it named less how many are not");
        String all = "S000002F09F19F29F39F49F59F69F79F89F99A9";
        int[][] said = {{0, 9, 90}, {0, 0, -72}, {9, 9, -72}, {0, 4, 0}, {1, 9, 72}, {0, 8, 72}};
        for (int[] call : said) {
            GoneOverboard x = Check.made(all);
            x.hear(call[0], call[1], 1);
            Check.due("said " + call[0] + " " + call[1], x.said(0), call[2]);
            x.look(0);
            x.look(0);
            Check.due("whatever the weights are", x.said(0), call[2]);
        }
        GoneOverboard x = Check.made("S000002F19A9");
        x.hear(2, 9, 9);
        x.hear(1, 1, 1);
        Check.due("none is named", x.said(0), -9);
        Check.due("all are named", x.said(1), 9);
        x = Check.made("S000002A9");
        x.hear(0, 9, 9);
        Check.due("aboard alone", x.said(0), 0);
    }

    private static void trustOutside() {
        Check.sentence("TRUST. OUTSIDE: i, j, x; STATE.");
        Check.Run[] states = {x -> { }, Check::busy};
        for (Check.Run before : states) {
            for (boolean upper : Check.BOTH) {
                for (int number : Check.beside(0, 9)) {
                    Check.unchanged(before, "trust i " + number, x -> x.trust(number, 9, 5, upper), Check.OUTSIDE);
                    Check.unchanged(before, "trust j " + number, x -> x.trust(0, number, 5, upper), Check.OUTSIDE);
                    Check.unchanged(before, "trust both " + number, x -> x.trust(number, number, 5, upper), Check.OUTSIDE);
                }
                for (int j = 0; j < 9; j++) {
                    int below = j;
                    Check.unchanged(before, "trust j below i", x -> x.trust(below + 1, below, 5, upper), Check.OUTSIDE);
                }
                for (int tenths : Check.beside(1, 9)) {
                    Check.unchanged(before, "trust x " + tenths, x -> x.trust(0, 9, tenths, upper), Check.OUTSIDE);
                }
            }
        }
        for (int i = 0; i <= 9; i++) {
            for (int j = i; j <= 9; j++) {
                Check.must(Check.made("S000001F01").trust(i, j, 5, false) > 0, "trust " + i + " " + j);
            }
        }
    }

    private static void trustOfNone() {
        Check.sentence("a FRACTION (STATE: all parts are 0)");
        for (boolean upper : Check.BOTH) {
            Check.unchanged(x -> { }, "trust, new", x -> x.trust(0, 9, 5, upper), Check.STATE);
            Check.unchanged(x -> {
                Check.busy(x);
                Check.tellAnew(x, "S315635T72");
                x.search();
            }, "trust, no parts", x -> x.trust(0, 9, 5, upper), Check.STATE);
        }
        GoneOverboard x = Check.made("S000001A9");
        Check.fraction("aboard alone", x.trust(0, 9, 9, true), x.trust(0, 9, 9, false), 0, 1);
        x.look(0);
        x = Check.made("S000001F01");
        x.look(0);
        Check.fraction("weights are 0, parts are not", x.trust(0, 0, 1, true), x.trust(0, 0, 1, false), 1, 1);
    }

    private static void trustLeastAndMost() {
        Check.sentence("the chance that HE went over at CELLS i to j, if WEIGHTS were as told and a WITNESS .. had said so");
        GoneOverboard x = Check.made("S000002F01F92A3");
        Check.fraction("0 by 1", x.trust(0, 0, 1, true), x.trust(0, 0, 1, false), 1, 34);
        Check.fraction("0 by 9", x.trust(0, 0, 9, true), x.trust(0, 0, 9, false), 9, 26);
        Check.fraction("9 by 1", x.trust(9, 9, 1, true), x.trust(9, 9, 1, false), 1, 13);
        Check.fraction("all by 9", x.trust(0, 9, 9, true), x.trust(0, 9, 9, false), 9, 14);
        Check.fraction("none", x.trust(1, 8, 9, true), x.trust(1, 8, 9, false), 0, 1);
        x.hear(0, 0, 9);
        x.look(0);
        Check.fraction("as told", x.trust(0, 0, 9, true), x.trust(0, 0, 9, false), 9, 26);
        Check.due("witnesses", x.count(8), 1);
    }

    private static void seedOfAnyLong() {
        Check.sentence("THE SEED is v: what it was. .. (THE SEED, a long; 0 at first)");
        GoneOverboard x = new GoneOverboard();
        long was = 0;
        for (long v : new long[] {Long.MIN_VALUE, -1, Long.MAX_VALUE, 1L << 32, 1, 0}) {
            Check.due("seed " + v, x.seed(v), was);
            was = v;
        }
    }

    private static void trialsOutside() {
        Check.sentence("TRIALS. OUTSIDE: m, n, row (n figures at most, 0 to 3 each).");
        Check.Run[] states = {x -> x.seed(5), Check::busy};
        int[] tooLong = {10, 100, 1000, 10000};
        for (Check.Run before : states) {
            for (int m : Check.beside(1, 30)) {
                Check.unchanged(before, "trials m " + m, x -> x.trials(m, 1, 0), Check.OUTSIDE);
            }
            for (int n : Check.beside(1, 4)) {
                Check.unchanged(before, "trials n " + n, x -> x.trials(1, n, 0), Check.OUTSIDE);
            }
            for (int n = 1; n <= 4; n++) {
                int looks = n;
                for (int row : new int[] {Integer.MIN_VALUE, -1, tooLong[n - 1], Integer.MAX_VALUE}) {
                    Check.unchanged(before, "trials " + n + " " + row, x -> x.trials(1, looks, row), Check.OUTSIDE);
                }
                for (int unit = 1; unit < tooLong[n - 1]; unit *= 10) {
                    int row = 4 * unit;
                    Check.unchanged(before, "trials " + n + " " + row, x -> x.trials(1, looks, row), Check.OUTSIDE);
                }
                Check.must(Check.made("S000001F01").trials(30, n, (tooLong[n - 1] - 1) / 3) == 0, "the greatest row of " + n);
            }
        }
    }

    private static void trialsOfNoParts() {
        Check.sentence("how many trials find HIM (0, if there are no parts; nothing is drawn then)");
        Check.unchanged(x -> x.seed(5), "trials, new", x -> x.trials(30, 4, 0), 0);
        Check.unchanged(x -> {
            Check.busy(x);
            Check.tellAnew(x, "S009906T00");
            x.search();
        }, "trials, no parts", x -> x.trials(30, 4, 3333), 0);
    }

    private static void trialsLeastAndMost() {
        Check.sentence("m times (1 to 30) .. a row of n (1 to 4; as above, THE SHIP from BEGIN, as far as LASTS)");
        for (int lasts = 1; lasts <= 6; lasts++) {
            for (int n = 1; n <= 4; n++) {
                for (int m : new int[] {1, 2, 29, 30}) {
                    int looks = Math.min(n, lasts);
                    drawn("S00000" + lasts + "F01", m, n, m * (1 + 2 * looks));
                    drawn("S00000" + lasts + "A1", m, n, m * (1 + looks));
                }
            }
        }
    }

    /** Nothing is found where nothing is seen; so many are drawn, and nothing changes else. */
    private static void drawn(String text, int m, int n, int draws) {
        Check.Run before = x -> {
            Check.tell(x, text);
            x.search();
            x.hear(0, 0, 3);
            x.keep(0);
            x.look(0);
            x.seed(9);
        };
        GoneOverboard x = new GoneOverboard();
        before.on(x);
        Check.due(text + " trials " + m + " " + n, x.trials(m, n, 0), 0);
        Check.due(text + " trials " + m + " " + n + ", the seed", x.seed(9), after(9, draws));
        GoneOverboard twin = new GoneOverboard();
        before.on(twin);
        Check.must(Check.seen(x).equals(Check.seen(twin)), "trials have changed more than the seed");
    }

    private static void wrapping() {
        Check.sentence("(64 bits, wrapping), its upper 31 bits by all told parts");
        for (long seed : new long[] {0, 1, -1, Long.MAX_VALUE, Long.MIN_VALUE, 1L << 33, before(0), before(-1)}) {
            GoneOverboard x = Check.made("S000001A7");
            x.seed(seed);
            x.trials(1, 1, 3);
            Check.due("the seed behind " + seed, x.seed(0), after(seed, 2));
        }
        Check.must(next(before(-1)) == -1 && next(before(1L << 33)) == 1L << 33, "seeds are reckoned back");
        // all 31 bits set are 2147483647: by 10 parts 7; the highest bit alone is 1073741824: by 10 parts 4
        upperBits(-1, "S009074F06F71F83", false);
        upperBits(-1, "S009074F07F71F82", true);
        upperBits(-1, "S009074F08F71F81", false);
        upperBits(Long.MIN_VALUE, "S009074F03F71F86", false);
        upperBits(Long.MIN_VALUE, "S009074F04F71F85", true);
        upperBits(Long.MIN_VALUE, "S009074F05F71F84", false);
        upperBits((1L << 33) - 1, "S009074F71F89", true);
        upperBits(1L << 33, "S009074F01F71F88", true);
    }

    /** The first draw makes this of the seed; a figure below 9 behind it finds him, if he is there. */
    private static void upperBits(long state, String text, boolean there) {
        GoneOverboard x = Check.made(text);
        x.seed(before(state));
        boolean finds = there && upper(next(state)) % 10 < 9;
        Check.due(text + " from " + state, x.trials(1, 1, 0), finds ? 1 : 0);
    }

    private static void whereHeIs() {
        Check.sentence("what is left tells where HE is (CELLS by number, ABOARD last)");
        String text = "S009901A2F92F03";
        trial(text, 1, 0, true, 0, 0);
        trial(text, 1, 0, true, 2, 0);
        trial(text, 1, 0, false, 3, 0, 0);
        trial("S009991A2F92F03", 1, 0, false, 2, 0, 0);
        trial("S009991A2F92F03", 1, 0, true, 3, 0);
        trial("S009991A2F92F03", 1, 0, true, 4, 0);
        trial("S009991A2F92F03", 1, 0, false, 5, 0);
        trial(text, 1, 3, false, 4, 0, 0);
        trial(text, 1, 3, true, 5, 0);
        trial(text, 1, 3, true, 6, 0);
    }

    private static void lessThanSees() {
        Check.sentence("by 10: less than SEES (or FINDS), if HE is where it looks: found, the trial ends");
        for (int tenths = 0; tenths <= 9; tenths++) {
            String sea = "S00" + tenths + "951F51A1";
            String aboard = "S009" + tenths + "51F51A1";
            for (int lot = 0; lot <= 9; lot++) {
                if (lot < tenths) {
                    trial(sea, 4, 0, true, 0, lot);
                    trial(aboard, 4, 3333, true, 1, lot);
                } else {
                    trial(sea, 4, 0, false, 0, lot, 0);
                    trial(aboard, 4, 3333, false, 1, lot);
                }
            }
        }
        Check.sentence("x likewise (whether HE is there or not)");
        trial("S009951F51A1", 1, 1, false, 0, 0, 0);
        trial("S009951F51A1", 1, 3, false, 0, 0, 0);
        trial("S009951F51A1", 1, 0, false, 1, 0);
        trial("S009952F51A1", 2, 30, true, 0, 0, 0, 8);
        trial("S009952F51A1", 2, 3, true, 1, 0, 8);
    }

    private static void shipInTrials() {
        Check.sentence("as above, THE SHIP from BEGIN .. (no farther than 0, 9)");
        trial("S009992F91", 2, 11, true, 0, 9, 0, 0);
        trial("S009902F01", 2, 22, true, 0, 9, 0, 0);
        trial("S009903F01", 3, 212, true, 0, 9, 0, 0, 0, 8);
        trial("S009982F91", 2, 31, true, 0, 0, 0, 0);
        GoneOverboard x = Check.made("S009904F01");
        x.look(1);
        x.look(1);
        long seed = seedFor(1, 0, 0);
        x.seed(seed);
        Check.due("from BEGIN, not from where it is", x.trials(1, 1, 0), 1);
    }

    private static void tideInTrials() {
        Check.sentence("less than ON: HE goes on, else less than ON and BACK: back (at ends HE stays)");
        String tide = "S239942F41";
        int[] where = {1, 1, 2, 2, 2, 0, 0, 0, 0, 0};
        for (int lot = 0; lot <= 9; lot++) {
            for (int figure = 0; figure <= 2; figure++) {
                if (figure == where[lot]) {
                    trial(tide, 2, 30 + figure, true, 0, 0, lot, 0);
                } else {
                    trial(tide, 2, 30 + figure, false, 0, 0, lot, 0, 0);
                }
            }
        }
        trial("S009942F41", 2, 30, true, 0, 0, 0, 0);
        trial("S919942F41", 2, 31, true, 0, 0, 8, 0);
        trial("S919942F41", 2, 32, true, 0, 0, 9, 0);
        trial("S909992F91", 2, 30, true, 0, 0, 0, 0);
        trial("S099902F01", 2, 30, true, 0, 0, 0, 0);
        trial("S909982F81", 2, 31, true, 0, 0, 0, 0);
        trial("S099912F11", 2, 32, true, 0, 0, 0, 0);
        Check.sentence("then, only if HE is in the sea, x likewise");
        trial("S550092A1", 2, 0, false, 0, 0, 0);
    }

    public static void main(String[] args) {
        noSuchWitness();
        saidOfAllAndNone();
        trustOutside();
        trustOfNone();
        trustLeastAndMost();
        seedOfAnyLong();
        trialsOutside();
        trialsOfNoParts();
        trialsLeastAndMost();
        wrapping();
        whereHeIs();
        lessThanSees();
        shipInTrials();
        tideInTrials();
        Check.end();
    }
}
