/**
 * Somebody is gone from the deck: a line of sea that is searched. The document's numbered promises say what each
 * method answers and refuses.
 */
public final class GoneOverboard {
    public static final int UNKNOWN = -1, OUTSIDE = -2, STATE = -3, FULL = -4, NONE = -9;

    private static final int CELLS = 10;
    /** The place behind the last cell, so that one row holds the weights of all places. */
    private static final int ABOARD = 10;
    private static final int PLACES = 11;
    private static final int ASIDE = 3;
    private static final int MOST_WITNESSES = 2;
    /** Each act adds a witness or a step, so the row never holds more than 2 and 6. */
    private static final int MOST_ACTS = 8;
    private static final int MOST_LOOKS = 4;
    private static final int MOST_BOTH = 2;
    private static final int MOST_JUDGED = 8;
    private static final int MOST_TRIALS = 30;
    private static final int MOST_SLOTS = 2;

    private final Text text;
    private final Told told;
    private final Scene now;
    private final Scene spare;
    private final Scenes acts;
    private final Scenes slots;
    private final Ahead ahead;
    private final Draws draws;
    private int keptBits;
    private int actsDone;

    public GoneOverboard() {
        text = new Text();
        told = new Told();
        now = new Scene();
        spare = new Scene();
        acts = new Scenes(MOST_ACTS);
        slots = new Scenes(MOST_SLOTS);
        ahead = new Ahead();
        draws = new Draws();
    }

    // ---- the search

    public int write(int letter) {
        if (!isWithin(letter, 0, 255)) {
            return OUTSIDE;
        }
        return text.isFull() ? FULL : text.add(letter);
    }

    public int wipe() {
        return text.clear();
    }

    public int fault() {
        return text.firstFault();
    }

    public int search() {
        if (text.firstFault() != NONE) {
            return STATE;
        }
        told.take(text);
        now.begin(told);
        actsDone = 0;
        keptBits = 0;
        return told.allParts();
    }

    // ---- acts

    public int look(int way) {
        if (!isWithin(way, 0, 2)) {
            return OUTSIDE;
        }
        if (now.step >= told.lasts) {
            return STATE;
        }
        remember();
        now.act(told, way);
        return now.ship;
    }

    public int lookAboard() {
        if (now.step >= told.lasts) {
            return STATE;
        }
        remember();
        now.act(told, ASIDE);
        return now.step;
    }

    public int hear(int i, int j, int x) {
        if (!isSaying(i, j, x)) {
            return OUTSIDE;
        }
        if (now.step > 0) {
            return STATE;
        }
        if (now.heard >= MOST_WITNESSES) {
            return FULL;
        }
        remember();
        now.believe(i, j, x);
        return now.heard;
    }

    public int undo() {
        if (actsDone <= 0) {
            return STATE;
        }
        actsDone--;
        acts.give(actsDone, now);
        return actsDone;
    }

    // ---- where he is

    public long weight(int place) {
        return isWithin(place, 0, ABOARD) ? now.of(place) : OUTSIDE;
    }

    public long likely(int place, boolean upper) {
        if (!isWithin(place, 0, ABOARD)) {
            return OUTSIDE;
        }
        long all = now.together();
        return all <= 0 ? STATE : Fraction.part(now.of(place), all, upper);
    }

    public int likeliest() {
        int place = NONE;
        long most = 0;
        for (int k = 0; k < PLACES; k++) {
            if (now.of(k) > most) {
                most = now.of(k);
                place = k;
            }
        }
        return place;
    }

    // ---- looks ahead

    public long by(int n, int row, boolean upper) {
        if (!isWithin(n, 1, MOST_LOOKS) || !isRow(n, row)) {
            return OUTSIDE;
        }
        if (!isLeft(n)) {
            return STATE;
        }
        return Fraction.part(foundBy(n, row), now.together() * power(100, n), upper);
    }

    public long best(int n, boolean upper) {
        if (!isWithin(n, 1, MOST_LOOKS)) {
            return OUTSIDE;
        }
        if (!isLeft(n)) {
            return STATE;
        }
        ahead.tryAll(told, now, n);
        return Fraction.part(ahead.likelier().found, now.together() * power(100, n), upper);
    }

    public int bestRow(int n) {
        if (!isWithin(n, 1, MOST_LOOKS)) {
            return OUTSIDE;
        }
        if (!isLeft(n)) {
            return STATE;
        }
        ahead.tryAll(told, now, n);
        return ahead.likelier().row;
    }

    public int soon(int x) {
        if (!isWithin(x, 1, 10)) {
            return OUTSIDE;
        }
        if (now.together() <= 0) {
            return STATE;
        }
        for (int n = 1; n <= MOST_LOOKS && isLeft(n); n++) {
            ahead.tryAll(told, now, n);
            if (ahead.likelier().found * 10 >= now.together() * power(100, n) * x) {
                return n;
            }
        }
        return NONE;
    }

    public long first(int n, boolean upper) {
        if (!isWithin(n, 1, MOST_LOOKS)) {
            return OUTSIDE;
        }
        if (!isLeft(n)) {
            return STATE;
        }
        ahead.tryAll(told, now, n);
        return Fraction.part(ahead.aboard.found - ahead.sea.found, now.together() * power(100, n), upper);
    }

    public long withSecond(int n, boolean upper) {
        if (!isWithin(n, 1, MOST_BOTH)) {
            return OUTSIDE;
        }
        if (told.secondCell == NONE || !isLeft(n)) {
            return STATE;
        }
        ahead.tryTogether(told, now, n);
        return Fraction.part(ahead.both.found, now.together() * power(1000, n), upper);
    }

    public int lanes() {
        int below = 0;
        int above = 0;
        for (int cell = 0; cell < CELLS; cell++) {
            if (now.of(cell) > 0) {
                below = Math.max(below, now.ship - cell);
                above = Math.max(above, cell - now.ship);
            }
        }
        // the nearer end comes first, as its way is gone twice
        return below + above + Math.min(below, above);
    }

    public int judge(int n, int row) {
        if (!isWithin(n, 1, MOST_JUDGED) || row < 0 || row >= power(10, n)) {
            return OUTSIDE;
        }
        spare.copy(now);
        for (int k = 0; k < n; k++) {
            int figure = figureOf(n, row, k);
            if (figure > ASIDE || spare.step >= told.lasts || spare.of(spare.placeBy(figure)) == 0) {
                return k;
            }
            spare.act(told, figure);
        }
        return NONE;
    }

    // ---- witnesses, trials

    public int said(int witness) {
        if (!isWithin(witness, 0, MOST_WITNESSES - 1)) {
            return OUTSIDE;
        }
        if (witness >= now.heard) {
            return 0;
        }
        int named = told.partsFrom(now.lowOf(witness), now.highOf(witness));
        return named - (told.partsFrom(0, CELLS - 1) - named);
    }

    public long trust(int i, int j, int x, boolean upper) {
        if (!isSaying(i, j, x)) {
            return OUTSIDE;
        }
        if (told.allParts() <= 0) {
            return STATE;
        }
        spare.begin(told);
        spare.believe(i, j, x);
        long named = 0;
        for (int cell = i; cell <= j; cell++) {
            named += spare.of(cell);
        }
        return Fraction.part(named, spare.together(), upper);
    }

    public long seed(long v) {
        long was = draws.state;
        draws.state = v;
        return was;
    }

    public int trials(int m, int n, int row) {
        if (!isWithin(m, 1, MOST_TRIALS) || !isWithin(n, 1, MOST_LOOKS) || !isRow(n, row)) {
            return OUTSIDE;
        }
        if (told.allParts() <= 0) {
            return 0;
        }
        int finds = 0;
        for (int k = 0; k < m; k++) {
            if (isFound(n, row)) {
                finds++;
            }
        }
        return finds;
    }

    // ---- slots

    public int keep(int slot) {
        if (!isWithin(slot, 0, MOST_SLOTS - 1)) {
            return UNKNOWN;
        }
        slots.put(slot, now);
        keptBits |= 1 << slot;
        return now.step;
    }

    public int again(int slot) {
        if (!isWithin(slot, 0, MOST_SLOTS - 1)) {
            return UNKNOWN;
        }
        if ((keptBits >> slot & 1) == 0) {
            return STATE;
        }
        slots.give(slot, now);
        actsDone = 0;
        return now.step;
    }

    public int count(int what) {
        switch (what) {
            case 0: return text.size();
            case 1: return told.on;
            case 2: return told.back;
            case 3: return told.sees;
            case 4: return told.finds;
            case 5: return told.lasts;
            case 6: return now.ship;
            case 7: return now.step;
            case 8: return now.heard;
            case 9: return actsDone;
            case 10: return now.cellBits();
            case 11: return told.secondCell;
            default: return OUTSIDE;
        }
    }

    private void remember() {
        acts.put(actsDone, now);
        actsDone++;
    }

    private boolean isLeft(int looks) {
        return now.together() > 0 && now.step + looks <= told.lasts;
    }

    /** In parts of all weights as they are now, each by 100 for every look. */
    private long foundBy(int n, int row) {
        long found = 0;
        spare.copy(now);
        for (int k = 0; k < n; k++) {
            int figure = figureOf(n, row, k);
            found = found * 100 + spare.foundNow(told, figure) * 10;
            spare.act(told, figure);
        }
        return found;
    }

    private boolean isFound(int n, int row) {
        int him = told.placeOfPart(draws.below(told.allParts()));
        int ship = told.begin;
        for (int k = 0; k < n && k < told.lasts; k++) {
            int figure = figureOf(n, row, k);
            ship = moved(ship, figure);
            int place = figure == ASIDE ? ABOARD : ship;
            // drawn even if he is elsewhere: the seed must go on alike
            int lot = draws.below(10);
            if (him == place && lot < told.chanceAt(place)) {
                return true;
            }
            if (him != ABOARD) {
                him = told.drifted(him, draws.below(10));
            }
        }
        return false;
    }

    private static boolean isWithin(int number, int least, int most) {
        return number >= least && number <= most;
    }

    private static boolean isSaying(int i, int j, int x) {
        return isWithin(i, 0, CELLS - 1) && isWithin(j, i, CELLS - 1) && isWithin(x, 1, 9);
    }

    private static boolean isRow(int n, int row) {
        if (row < 0 || row >= power(10, n)) {
            return false;
        }
        for (int k = 0; k < n; k++) {
            if (figureOf(n, row, k) > ASIDE) {
                return false;
            }
        }
        return true;
    }

    private static int figureOf(int n, int row, int k) {
        long unit = power(10, n - 1 - k);
        return unit <= 0 ? 0 : (int) (row / unit % 10);
    }

    private static long power(long base, int times) {
        long product = 1;
        for (int k = 0; k < times && k < MOST_JUDGED; k++) {
            product *= base;
        }
        return product;
    }

    private static int moved(int cell, int way) {
        if (way == 1) {
            return Math.min(cell + 1, CELLS - 1);
        }
        return way == 2 ? Math.max(cell - 1, 0) : cell;
    }

    /** The letters of the text, and whether they can be a search. */
    private static final class Text {
        private static final int MOST = 40;
        private static final int HEAD = 7;
        private static final int ALL_CELLS = 1023;
        private static final int AT_PART = 0, AT_CELL = 1, AT_PARTS = 2, AT_SECOND = 3, AT_STEP = 4;

        private final int[] letters;
        private int length;
        private int awaits;
        private int freeCells;
        private boolean freeAboard;
        private boolean freeSecond;

        Text() {
            letters = new int[MOST];
        }

        int size() {
            return length;
        }

        boolean isFull() {
            return length >= letters.length;
        }

        int add(int letter) {
            if (length >= 0 && length < letters.length) {
                letters[length] = letter;
                length++;
            }
            return length;
        }

        int clear() {
            int was = length;
            length = 0;
            return was;
        }

        int letterAt(int place) {
            return place >= 0 && place < length && place < letters.length ? letters[place] : NONE;
        }

        /** NONE, if no digit stands there. */
        int digitAt(int place) {
            int letter = letterAt(place);
            return letter >= '0' && letter <= '9' ? letter - '0' : NONE;
        }

        int firstFault() {
            awaits = AT_PART;
            freeCells = ALL_CELLS;
            freeAboard = true;
            freeSecond = true;
            for (int k = 0; k < length; k++) {
                boolean fits = k < HEAD ? headFits(k) : partFits(k);
                if (!fits) {
                    return k;
                }
            }
            return length < HEAD || awaits != AT_PART ? length : NONE;
        }

        private boolean headFits(int k) {
            int digit = digitAt(k);
            switch (k) {
                case 0: return letterAt(k) == 'S';
                case 2: return digit >= 0 && digitAt(1) + digit <= 10;
                case 6: return digit >= 1 && digit <= 6;
                default: return digit >= 0;
            }
        }

        private boolean partFits(int k) {
            int digit = digitAt(k);
            switch (awaits) {
                case AT_PART:
                    return partBegins(letterAt(k));
                case AT_CELL:
                    awaits = AT_PARTS;
                    return digit >= 0 && takeCell(digit);
                case AT_PARTS:
                    awaits = AT_PART;
                    return digit >= 1;
                case AT_SECOND:
                    awaits = AT_STEP;
                    return digit >= 0;
                default:
                    awaits = AT_PART;
                    return digit >= 0 && digit <= 6;
            }
        }

        private boolean partBegins(int letter) {
            boolean fits = false;
            if (letter == 'F') {
                // with all cells told no cell could stand behind it
                fits = freeCells != 0;
                awaits = AT_CELL;
            } else if (letter == 'A') {
                fits = freeAboard;
                freeAboard = false;
                awaits = AT_PARTS;
            } else if (letter == 'T') {
                fits = freeSecond;
                freeSecond = false;
                awaits = AT_SECOND;
            }
            return fits;
        }

        private boolean takeCell(int cell) {
            boolean free = (freeCells >> cell & 1) != 0;
            freeCells &= ~(1 << cell);
            return free;
        }
    }

    /** The search as it was told. */
    private static final class Told {
        private int on;
        private int back;
        private int sees;
        private int finds;
        private int begin;
        private int lasts;
        private int secondCell;
        private int secondStep;
        private final int[] parts;

        Told() {
            parts = new int[PLACES];
            lasts = 1;
            secondCell = NONE;
        }

        /** The text has no fault. */
        void take(Text text) {
            on = text.digitAt(1);
            back = text.digitAt(2);
            sees = text.digitAt(3);
            finds = text.digitAt(4);
            begin = text.digitAt(5);
            lasts = text.digitAt(6);
            secondCell = NONE;
            secondStep = 0;
            for (int place = 0; place < PLACES; place++) {
                setPart(place, 0);
            }
            for (int k = Text.HEAD; k < text.size(); k += text.letterAt(k) == 'A' ? 2 : 3) {
                takePart(text, k);
            }
        }

        private void takePart(Text text, int k) {
            switch (text.letterAt(k)) {
                case 'F':
                    setPart(text.digitAt(k + 1), text.digitAt(k + 2));
                    break;
                case 'A':
                    setPart(ABOARD, text.digitAt(k + 1));
                    break;
                default:
                    secondCell = text.digitAt(k + 1);
                    secondStep = text.digitAt(k + 2);
                    break;
            }
        }

        private void setPart(int place, int many) {
            if (place >= 0 && place < parts.length) {
                parts[place] = many;
            }
        }

        int partAt(int place) {
            return place >= 0 && place < parts.length ? parts[place] : 0;
        }

        int partsFrom(int low, int high) {
            int many = 0;
            for (int place = 0; place < PLACES; place++) {
                if (isWithin(place, low, high)) {
                    many += partAt(place);
                }
            }
            return many;
        }

        int allParts() {
            return partsFrom(0, ABOARD);
        }

        int chanceAt(int place) {
            return place == ABOARD ? finds : sees;
        }

        int placeOfPart(int part) {
            int left = part;
            for (int place = 0; place < ABOARD; place++) {
                left -= partAt(place);
                if (left < 0) {
                    return place;
                }
            }
            return ABOARD;
        }

        int drifted(int cell, int lot) {
            if (lot < on) {
                return moved(cell, 1);
            }
            return lot < on + back ? moved(cell, 2) : cell;
        }
    }

    /** What acts change, and slots keep: weights, the ship, the step, the witnesses. */
    private static final class Scene {
        private final long[] weights;
        private final int[] lows;
        private final int[] highs;
        private int ship;
        private int step;
        private int heard;

        Scene() {
            weights = new long[PLACES];
            lows = new int[MOST_WITNESSES];
            highs = new int[MOST_WITNESSES];
        }

        void begin(Told told) {
            for (int place = 0; place < weights.length; place++) {
                weights[place] = told.partAt(place);
            }
            ship = told.begin;
            step = 0;
            heard = 0;
        }

        void copy(Scene other) {
            for (int place = 0; place < weights.length; place++) {
                weights[place] = other.of(place);
            }
            for (int k = 0; k < lows.length && k < highs.length; k++) {
                lows[k] = other.lowOf(k);
                highs[k] = other.highOf(k);
            }
            ship = other.ship;
            step = other.step;
            heard = other.heard;
        }

        long of(int place) {
            return place >= 0 && place < weights.length ? weights[place] : 0;
        }

        int lowOf(int witness) {
            return witness >= 0 && witness < lows.length ? lows[witness] : 0;
        }

        int highOf(int witness) {
            return witness >= 0 && witness < highs.length ? highs[witness] : 0;
        }

        long together() {
            long all = 0;
            for (int place = 0; place < weights.length; place++) {
                all += weights[place];
            }
            return all;
        }

        int cellBits() {
            int bits = 0;
            for (int cell = 0; cell < CELLS; cell++) {
                if (of(cell) > 0) {
                    bits |= 1 << cell;
                }
            }
            return bits;
        }

        int placeBy(int figure) {
            return figure == ASIDE ? ABOARD : moved(ship, figure);
        }

        long foundNow(Told told, int figure) {
            int place = placeBy(figure);
            return of(place) * told.chanceAt(place);
        }

        void act(Told told, int figure) {
            lookBy(told, figure);
            pass(told);
        }

        void lookBy(Told told, int figure) {
            int place = placeBy(figure);
            ship = moved(ship, figure);
            lessen(place, 10 - told.chanceAt(place));
        }

        /** No place at all is lessened by NONE. */
        void lessen(int seen, int tenths) {
            for (int place = 0; place < weights.length; place++) {
                weights[place] *= place == seen ? tenths : 10;
            }
        }

        void pass(Told told) {
            step++;
            long behind = 0;
            for (int cell = 0; cell < CELLS && cell < weights.length; cell++) {
                long here = weights[cell];
                long ahead = cell < CELLS - 1 ? of(cell + 1) : 0;
                int stays = 10 - told.on - told.back;
                if (cell == 0) {
                    stays += told.back;
                }
                if (cell == CELLS - 1) {
                    stays += told.on;
                }
                weights[cell] = step >= told.lasts ? 0 : here * stays + behind * told.on + ahead * told.back;
                behind = here;
            }
            if (ABOARD < weights.length) {
                weights[ABOARD] *= 10;
            }
        }

        void believe(int low, int high, int tenths) {
            for (int place = 0; place < weights.length; place++) {
                if (place == ABOARD) {
                    weights[place] *= 5;
                } else {
                    weights[place] *= isWithin(place, low, high) ? tenths : 10 - tenths;
                }
            }
            if (heard >= 0 && heard < lows.length && heard < highs.length) {
                lows[heard] = low;
                highs[heard] = high;
                heard++;
            }
        }
    }

    /** Scenes that are made once and written over, so that calls make no objects. */
    private static final class Scenes {
        private final Scene[] row;

        Scenes(int size) {
            row = new Scene[Math.max(size, 0)];
            for (int k = 0; k < row.length; k++) {
                row[k] = new Scene();
            }
        }

        /** Null, if there is none. */
        Scene at(int k) {
            return k >= 0 && k < row.length ? row[k] : null;
        }

        void put(int k, Scene from) {
            Scene scene = at(k);
            if (scene != null) {
                scene.copy(from);
            }
        }

        void give(int k, Scene to) {
            Scene scene = at(k);
            if (scene != null) {
                to.copy(scene);
            }
        }
    }

    /** The first of the likeliest rows that were offered. */
    private static final class Best {
        private long found;
        private int row;

        void clear() {
            found = -1;
            row = 0;
        }

        void offer(long chance, int figures) {
            if (chance > found) {
                found = chance;
                row = figures;
            }
        }
    }

    /** All rows of looks from a scene on; a scene for each depth. */
    private static final class Ahead {
        private final Scenes depths;
        private final Best sea;
        private final Best aboard;
        private final Best both;
        private int looks;

        Ahead() {
            depths = new Scenes(MOST_LOOKS);
            sea = new Best();
            aboard = new Best();
            both = new Best();
        }

        void tryAll(Told told, Scene from, int n) {
            looks = n;
            sea.clear();
            aboard.clear();
            depths.put(0, from);
            for (int figure = 0; figure <= ASIDE; figure++) {
                tryLook(told, 0, figure, 0, 0, figure == ASIDE ? aboard : sea);
            }
        }

        /** Of like ones the row that begins in the sea is the lesser number. */
        Best likelier() {
            return aboard.found > sea.found ? aboard : sea;
        }

        private void tryLook(Told told, int depth, int figure, int row, long found, Best best) {
            Scene scene = depths.at(depth);
            if (scene == null || depth >= looks) {
                return;
            }
            int longer = row * 10 + figure;
            long more = found * 100 + scene.foundNow(told, figure) * 10;
            if (depth + 1 == looks) {
                best.offer(more, longer);
                return;
            }
            Scene deeper = depths.at(depth + 1);
            if (deeper == null) {
                return;
            }
            deeper.copy(scene);
            deeper.act(told, figure);
            for (int next = 0; next <= ASIDE; next++) {
                tryLook(told, depth + 1, next, longer, more, best);
            }
        }

        void tryTogether(Told told, Scene from, int n) {
            looks = n;
            both.clear();
            depths.put(0, from);
            tryBoth(told, 0, told.secondCell, 0);
        }

        private void tryBoth(Told told, int depth, int second, long found) {
            Scene scene = depths.at(depth);
            Scene deeper = depths.at(depth + 1);
            if (scene == null || deeper == null || depth >= looks) {
                return;
            }
            boolean isThere = scene.step >= told.secondStep;
            for (int figure = 0; figure <= ASIDE; figure++) {
                for (int way = 0; way <= (isThere ? 2 : 0); way++) {
                    int cell = moved(second, way);
                    deeper.copy(scene);
                    deeper.lookBy(told, figure);
                    deeper.lessen(isThere ? cell : NONE, 10 - told.sees);
                    long more = found * 1000 + (scene.together() * 100 - deeper.together()) * 10;
                    if (depth + 1 == looks) {
                        both.offer(more, 0);
                    } else {
                        deeper.pass(told);
                        tryBoth(told, depth + 1, cell, more);
                    }
                }
            }
        }
    }

    /** What trials draw. */
    private static final class Draws {
        private static final long TIMES = 6364136223846793005L;
        private static final long AND = 1442695040888963407L;

        private long state;

        int below(int bound) {
            state = state * TIMES + AND;
            return bound <= 0 ? 0 : (int) ((state >>> 33) % bound);
        }
    }

    /** Fractions in least terms. */
    private static final class Fraction {
        /** Far more than the division of any two longs takes. */
        private static final int MOST_DIVISIONS = 200;

        static long part(long above, long below, boolean upper) {
            long common = commonOf(Math.abs(above), below);
            if (common <= 0) {
                return upper ? 0 : 1;
            }
            return upper ? above / common : below / common;
        }

        private static long commonOf(long a, long b) {
            long greater = a;
            long less = b;
            for (int k = 0; k < MOST_DIVISIONS && less != 0; k++) {
                long left = greater % less;
                greater = less;
                less = left;
            }
            return greater;
        }
    }
}
