/** What the edge tests share: objects made by a run of calls, answers that are due, and that nothing has changed. */
public final class Check {
    public static final int UNKNOWN = -1, OUTSIDE = -2, STATE = -3, FULL = -4, NONE = -9;
    public static final String ALL_CELLS = "S000001F01F11F21F31F41F51F61F71F81F91";
    public static final boolean[] BOTH = {true, false};

    /** Calls by which an object comes to a state. */
    public interface Run {
        void on(GoneOverboard x);
    }

    /** One call, and its answer. */
    public interface Call {
        long on(GoneOverboard x);
    }

    private static int wrong = 0;
    private static String words = "";

    private Check() {
    }

    /** The words of the document that the checks behind it are for. */
    public static void sentence(String said) {
        words = said;
    }

    public static void must(boolean holds, String what) {
        if (!holds) {
            wrong++;
            System.out.println("\"" + words + "\": " + what);
        }
    }

    public static void due(String call, long got, long want) {
        must(got == want, call + " answered " + got + ", due is " + want);
    }

    public static void fraction(String call, long above, long below, long wantAbove, long wantBelow) {
        due(call + " above", above, wantAbove);
        due(call + " below", below, wantBelow);
    }

    public static void weights(String call, GoneOverboard x, long... want) {
        for (int place = 0; place < want.length; place++) {
            due(call + ": weight " + place, x.weight(place), want[place]);
        }
    }

    public static void tell(GoneOverboard x, String text) {
        for (int k = 0; k < text.length(); k++) {
            x.write(text.charAt(k));
        }
    }

    public static void tellAnew(GoneOverboard x, String text) {
        x.wipe();
        tell(x, text);
    }

    public static GoneOverboard told(String text) {
        GoneOverboard x = new GoneOverboard();
        tell(x, text);
        return x;
    }

    public static GoneOverboard made(String text) {
        GoneOverboard x = told(text);
        must(x.search() >= 0, text + " is no search");
        return x;
    }

    public static void look(GoneOverboard x, int way, int times) {
        for (int k = 0; k < times; k++) {
            x.look(way);
        }
    }

    /** Numbers beside those from low to high. */
    public static int[] beside(int low, int high) {
        return new int[] {Integer.MIN_VALUE, low - 1, high + 1, Integer.MAX_VALUE};
    }

    /** A state in which each kind of thing that a call might spoil is there. */
    public static void busy(GoneOverboard x) {
        tell(x, "S315635F23F35F51A4T72");
        x.search();
        x.seed(77);
        x.hear(2, 3, 8);
        x.keep(0);
        x.hear(5, 9, 2);
        x.look(1);
        x.keep(1);
        x.lookAboard();
        tellAnew(x, "S120893F15F62A7");
    }

    /** The call answers so, and an object that had it can not be told from one that had not. */
    public static void unchanged(Run before, String call, Call made, long want) {
        GoneOverboard x = new GoneOverboard();
        GoneOverboard twin = new GoneOverboard();
        before.on(x);
        before.on(twin);
        due(call, made.on(x), want);
        String got = seen(x);
        String left = seen(twin);
        must(got.equals(left), call + " has changed " + left + " into " + got);
    }

    /** All that can be seen of an object, with its row of acts, slots and text; the object is used up by that. */
    public static String seen(GoneOverboard x) {
        StringBuilder seen = new StringBuilder();
        long seed = x.seed(0);
        seen.append("seed ").append(seed).append(" fault ").append(x.fault());
        see(x, seen);
        for (int acts = x.count(9); acts > 0; acts--) {
            seen.append("\nundo ").append(x.undo());
            see(x, seen);
        }
        seen.append("\nundo ").append(x.undo());
        for (int slot = 0; slot < 2; slot++) {
            seen.append("\nagain ").append(x.again(slot));
            see(x, seen);
        }
        seen.append("\nsearch ").append(x.search());
        see(x, seen);
        return seen.toString();
    }

    private static void see(GoneOverboard x, StringBuilder seen) {
        for (int what = 0; what < 12; what++) {
            seen.append(' ').append(x.count(what));
        }
        for (int place = 0; place < 11; place++) {
            seen.append(' ').append(x.weight(place));
        }
        seen.append(' ').append(x.said(0)).append(' ').append(x.said(1));
    }

    /** Tells how the test ended; its exit code is 1 if an answer was not as due. */
    public static void end() {
        System.out.println(wrong == 0 ? "all edges hold" : wrong + " edges do not hold");
        if (wrong != 0) {
            System.exit(1);
        }
    }
}
