import java.math.BigInteger;
import java.util.ArrayDeque;
import java.util.ArrayList;
import java.util.Arrays;
import java.util.List;
import java.util.Random;

// Runs of calls, alike at each start of the test, against a slow model that is written straight from the document:
// weights without a bound, rows tried one by one, the first fault by trying what might come behind.
public final class ModelTests {
    private static final int UNKNOWN = -1, OUTSIDE = -2, STATE = -3, FULL = -4, NONE = -9;
    private static final int RUNS = 600;
    private static final int CALLS = 500;

    private static final class State {
        BigInteger[] weights = new BigInteger[11];
        int ship;
        int step;
        List<int[]> heard = new ArrayList<>();

        State() {
            Arrays.fill(weights, BigInteger.ZERO);
        }

        State twin() {
            State twin = new State();
            twin.weights = weights.clone();
            twin.ship = ship;
            twin.step = step;
            twin.heard = new ArrayList<>(heard);
            return twin;
        }

        BigInteger all() {
            return Arrays.stream(weights).reduce(BigInteger.ZERO, BigInteger::add);
        }
    }

    private static final class Model {
        String text = "";
        int on, back, sees, finds, begin, lasts = 1, second = NONE, secondStep;
        int[] parts = new int[11];
        State now = new State();
        ArrayDeque<State> acts = new ArrayDeque<>();
        State[] slots = new State[2];
        long seed;

        static boolean isSearch(String text) {
            if (!text.matches("S[0-9]{5}[1-6](F[0-9][1-9]|A[1-9]|T[0-9][0-6])*")) {
                return false;
            }
            if (text.charAt(1) + text.charAt(2) - 2 * '0' > 10) {
                return false;
            }
            List<String> seen = new ArrayList<>();
            for (int k = 7; k < text.length(); k += text.charAt(k) == 'A' ? 2 : 3) {
                String what = text.charAt(k) == 'F' ? text.substring(k, k + 2) : text.substring(k, k + 1);
                if (seen.contains(what)) {
                    return false;
                }
                seen.add(what);
            }
            return true;
        }

        static boolean canBecomeSearch(String start) {
            String whole = start.length() < 7 ? start + "S000001".substring(start.length()) : start;
            boolean can = isSearch(whole);
            for (int k = 0; k < 100 && !can; k++) {
                can = isSearch(start + k / 10 + k % 10) || isSearch(start + k % 10);
            }
            return can;
        }

        int fault() {
            for (int k = 0; k < text.length(); k++) {
                if (!canBecomeSearch(text.substring(0, k + 1))) {
                    return k;
                }
            }
            return isSearch(text) ? NONE : text.length();
        }

        int figure(int k) {
            return text.charAt(k) - '0';
        }

        int search() {
            if (fault() != NONE) {
                return STATE;
            }
            on = figure(1);
            back = figure(2);
            sees = figure(3);
            finds = figure(4);
            begin = figure(5);
            lasts = figure(6);
            second = NONE;
            parts = new int[11];
            for (int k = 7; k < text.length(); k += text.charAt(k) == 'A' ? 2 : 3) {
                if (text.charAt(k) == 'F') {
                    parts[figure(k + 1)] = figure(k + 2);
                } else if (text.charAt(k) == 'A') {
                    parts[10] = figure(k + 1);
                } else {
                    second = figure(k + 1);
                    secondStep = figure(k + 2);
                }
            }
            now = told();
            acts.clear();
            slots = new State[2];
            return Arrays.stream(parts).sum();
        }

        State told() {
            State state = new State();
            for (int k = 0; k < 11; k++) {
                state.weights[k] = BigInteger.valueOf(parts[k]);
            }
            state.ship = begin;
            return state;
        }

        static int go(int cell, int way) {
            int there = way == 1 ? cell + 1 : way == 2 ? cell - 1 : cell;
            return there < 0 ? 0 : there > 9 ? 9 : there;
        }

        static void times(State state, int place, int tenths) {
            for (int k = 0; k < 11; k++) {
                state.weights[k] = state.weights[k].multiply(BigInteger.valueOf(k == place ? tenths : 10));
            }
        }

        void tide(State state) {
            BigInteger[] next = new BigInteger[11];
            Arrays.fill(next, BigInteger.ZERO);
            state.step++;
            for (int cell = 0; cell < 10 && state.step < lasts; cell++) {
                int[] tenths = {10 - on - back, on, back};
                for (int way = 0; way < 3; way++) {
                    int to = go(cell, way);
                    next[to] = next[to].add(state.weights[cell].multiply(BigInteger.valueOf(tenths[way])));
                }
            }
            next[10] = state.weights[10].multiply(BigInteger.TEN);
            state.weights = next;
        }

        int place(State state, int figure) {
            return figure == 3 ? 10 : go(state.ship, figure);
        }

        void act(State state, int figure) {
            int place = place(state, figure);
            times(state, place, 10 - (place == 10 ? finds : sees));
            state.ship = figure == 3 ? state.ship : place;
            tide(state);
        }

        int look(int way) {
            if (way < 0 || way > 2) {
                return OUTSIDE;
            }
            if (now.step == lasts) {
                return STATE;
            }
            acts.push(now.twin());
            act(now, way);
            return now.ship;
        }

        int lookAboard() {
            if (now.step == lasts) {
                return STATE;
            }
            acts.push(now.twin());
            act(now, 3);
            return now.step;
        }

        static boolean saying(int i, int j, int x) {
            return i >= 0 && i <= j && j <= 9 && x >= 1 && x <= 9;
        }

        static void believe(State state, int i, int j, int x) {
            for (int k = 0; k < 11; k++) {
                int tenths = k == 10 ? 5 : k >= i && k <= j ? x : 10 - x;
                state.weights[k] = state.weights[k].multiply(BigInteger.valueOf(tenths));
            }
            state.heard.add(new int[] {i, j, x});
        }

        int hear(int i, int j, int x) {
            if (!saying(i, j, x)) {
                return OUTSIDE;
            }
            if (now.step > 0) {
                return STATE;
            }
            if (now.heard.size() == 2) {
                return FULL;
            }
            acts.push(now.twin());
            believe(now, i, j, x);
            return now.heard.size();
        }

        int undo() {
            if (acts.isEmpty()) {
                return STATE;
            }
            now = acts.pop();
            return acts.size();
        }

        static long fraction(BigInteger above, BigInteger below, boolean upper) {
            BigInteger common = above.gcd(below);
            return (upper ? above : below).divide(common).longValueExact();
        }

        long likely(int place, boolean upper) {
            if (place < 0 || place > 10) {
                return OUTSIDE;
            }
            return now.all().signum() == 0 ? STATE : fraction(now.weights[place], now.all(), upper);
        }

        int likeliest() {
            int best = NONE;
            for (int k = 10; k >= 0; k--) {
                if (now.weights[k].signum() > 0 && (best == NONE || now.weights[k].compareTo(now.weights[best]) >= 0)) {
                    best = k;
                }
            }
            return best;
        }

        /** The figures of a row, the first one's ahead; null: it is no row of so many looks. */
        static int[] figures(int n, int row, int most) {
            if (n < 1 || n > most || row < 0 || Integer.toString(row).length() > n) {
                return null;
            }
            String told = "0".repeat(n - Integer.toString(row).length()) + row;
            return told.chars().map(letter -> letter - '0').toArray();
        }

        static int[] looks(int n, int row) {
            int[] figures = figures(n, row, 4);
            return figures == null || Arrays.stream(figures).anyMatch(figure -> figure > 3) ? null : figures;
        }

        boolean none(int n) {
            return now.all().signum() == 0 || now.step + n > lasts;
        }

        /** In parts of all weights times 100 for each look: what is not lost by looks is what would be left. */
        BigInteger found(int[] figures) {
            BigInteger found = BigInteger.ZERO;
            State state = now.twin();
            for (int figure : figures) {
                BigInteger before = state.all().multiply(BigInteger.TEN);
                State looked = state.twin();
                int place = place(state, figure);
                times(looked, place, 10 - (place == 10 ? finds : sees));
                BigInteger lost = before.subtract(looked.all());
                found = found.multiply(BigInteger.valueOf(100)).add(lost.multiply(BigInteger.TEN));
                act(state, figure);
            }
            return found;
        }

        BigInteger whole(int n, int each) {
            return now.all().multiply(BigInteger.valueOf(each).pow(n));
        }

        long by(int n, int row, boolean upper) {
            int[] figures = looks(n, row);
            if (figures == null) {
                return OUTSIDE;
            }
            return none(n) ? STATE : fraction(found(figures), whole(n, 100), upper);
        }

        /** The first of the likeliest rows from one number to another. */
        int bestFrom(int n, int from, int to) {
            int best = -1;
            BigInteger most = BigInteger.valueOf(-1);
            for (int row = from; row < to; row++) {
                int[] figures = looks(n, row);
                if (figures != null && found(figures).compareTo(most) > 0) {
                    most = found(figures);
                    best = row;
                }
            }
            return best;
        }

        int bestRow(int n) {
            if (n < 1 || n > 4) {
                return OUTSIDE;
            }
            return none(n) ? STATE : bestFrom(n, 0, (int) Math.pow(10, n));
        }

        long best(int n, boolean upper) {
            int row = bestRow(n);
            return row < 0 ? row : fraction(found(looks(n, row)), whole(n, 100), upper);
        }

        int soon(int x) {
            if (x < 1 || x > 10) {
                return OUTSIDE;
            }
            if (now.all().signum() == 0) {
                return STATE;
            }
            for (int n = 1; n <= 4 && now.step + n <= lasts; n++) {
                BigInteger found = found(looks(n, bestRow(n))).multiply(BigInteger.TEN);
                if (found.compareTo(whole(n, 100).multiply(BigInteger.valueOf(x))) >= 0) {
                    return n;
                }
            }
            return NONE;
        }

        long first(int n, boolean upper) {
            if (n < 1 || n > 4) {
                return OUTSIDE;
            }
            if (none(n)) {
                return STATE;
            }
            int tens = (int) Math.pow(10, n - 1);
            BigInteger aboard = found(looks(n, bestFrom(n, 3 * tens, 4 * tens)));
            BigInteger sea = found(looks(n, bestFrom(n, 0, 3 * tens)));
            return fraction(aboard.subtract(sea), whole(n, 100), upper);
        }

        long withSecond(int n, boolean upper) {
            if (n < 1 || n > 2) {
                return OUTSIDE;
            }
            if (second == NONE || none(n)) {
                return STATE;
            }
            BigInteger most = BigInteger.ZERO;
            for (int row = 0; row < 100; row++) {
                for (int other = 0; other < 100; other++) {
                    int[] ship = looks(n, row);
                    int[] ways = looks(n, other);
                    if (ship != null && ways != null && Arrays.stream(ways).allMatch(way -> way < 3)) {
                        most = most.max(foundByBoth(ship, ways));
                    }
                }
            }
            return fraction(most, whole(n, 1000), upper);
        }

        BigInteger foundByBoth(int[] ship, int[] ways) {
            BigInteger found = BigInteger.ZERO;
            State state = now.twin();
            int there = second;
            for (int k = 0; k < ship.length; k++) {
                BigInteger before = state.all();
                int place = place(state, ship[k]);
                times(state, place, 10 - (place == 10 ? finds : sees));
                if (now.step + k >= secondStep) {
                    there = go(there, ways[k]);
                    times(state, there, 10 - sees);
                } else {
                    times(state, NONE, 10);
                }
                state.ship = place == 10 ? state.ship : place;
                BigInteger lost = before.multiply(BigInteger.valueOf(100)).subtract(state.all());
                found = found.multiply(BigInteger.valueOf(1000)).add(lost.multiply(BigInteger.TEN));
                tide(state);
            }
            return found;
        }

        /** All ways of so many looks, shorter ones first, as the cells where the ship can be and what it has seen. */
        int lanes() {
            int wanted = bits();
            boolean[][] been = new boolean[10][1024];
            been[now.ship][1 << now.ship] = true;
            for (int looks = 0; ; looks++) {
                boolean[][] next = new boolean[10][1024];
                for (int cell = 0; cell < 10; cell++) {
                    for (int seen = 0; seen < 1024; seen++) {
                        if (been[cell][seen] && (seen & wanted) == wanted) {
                            return looks;
                        }
                        for (int way = 0; way < 3 && been[cell][seen]; way++) {
                            next[go(cell, way)][seen | 1 << go(cell, way)] = true;
                        }
                    }
                }
                been = next;
            }
        }

        int judge(int n, int row) {
            int[] figures = figures(n, row, 8);
            if (figures == null) {
                return OUTSIDE;
            }
            State state = now.twin();
            for (int k = 0; k < n; k++) {
                if (figures[k] > 3 || now.step + k >= lasts) {
                    return k;
                }
                if (state.weights[place(state, figures[k])].signum() == 0) {
                    return k;
                }
                act(state, figures[k]);
            }
            return NONE;
        }

        int said(int witness) {
            if (witness < 0 || witness > 1) {
                return OUTSIDE;
            }
            int said = 0;
            for (int cell = 0; cell < 10 && witness < now.heard.size(); cell++) {
                int[] heard = now.heard.get(witness);
                said += cell >= heard[0] && cell <= heard[1] ? parts[cell] : -parts[cell];
            }
            return said;
        }

        long trust(int i, int j, int x, boolean upper) {
            if (!saying(i, j, x)) {
                return OUTSIDE;
            }
            State state = told();
            if (state.all().signum() == 0) {
                return STATE;
            }
            believe(state, i, j, x);
            BigInteger named = BigInteger.ZERO;
            for (int cell = i; cell <= j; cell++) {
                named = named.add(state.weights[cell]);
            }
            return fraction(named, state.all(), upper);
        }

        long seed(long v) {
            long was = seed;
            seed = v;
            return was;
        }

        int draw(int bound) {
            BigInteger next = BigInteger.valueOf(seed).multiply(new BigInteger("6364136223846793005"))
                    .add(new BigInteger("1442695040888963407"));
            seed = next.longValue();
            return next.mod(BigInteger.TWO.pow(64)).shiftRight(33).intValueExact() % bound;
        }

        int trials(int m, int n, int row) {
            int[] figures = looks(n, row);
            if (m < 1 || m > 30 || figures == null) {
                return OUTSIDE;
            }
            List<Integer> lots = new ArrayList<>();
            for (int place = 0; place < 11; place++) {
                for (int k = 0; k < parts[place]; k++) {
                    lots.add(place);
                }
            }
            int finds = 0;
            for (int k = 0; k < m && !lots.isEmpty(); k++) {
                finds += trial(lots.get(draw(lots.size())), figures) ? 1 : 0;
            }
            return finds;
        }

        boolean trial(int from, int[] figures) {
            int him = from;
            State state = told();
            for (int k = 0; k < figures.length && k < lasts; k++) {
                int place = place(state, figures[k]);
                state.ship = place == 10 ? state.ship : place;
                int lot = draw(10);
                if (place == him && lot < (place == 10 ? finds : sees)) {
                    return true;
                }
                if (him < 10) {
                    lot = draw(10);
                    him = go(him, lot < on ? 1 : lot < on + back ? 2 : 0);
                }
            }
            return false;
        }

        int keep(int slot) {
            if (slot < 0 || slot > 1) {
                return UNKNOWN;
            }
            slots[slot] = now.twin();
            return now.step;
        }

        int again(int slot) {
            if (slot < 0 || slot > 1) {
                return UNKNOWN;
            }
            if (slots[slot] == null) {
                return STATE;
            }
            now = slots[slot].twin();
            acts.clear();
            return now.step;
        }

        int bits() {
            int bits = 0;
            for (int cell = 0; cell < 10; cell++) {
                bits += now.weights[cell].signum() << cell;
            }
            return bits;
        }

        int count(int what) {
            int[] counts = {text.length(), on, back, sees, finds, lasts, now.ship, now.step, now.heard.size(),
                acts.size(), bits(), second};
            return what < 0 || what > 11 ? OUTSIDE : counts[what];
        }
    }

    private static int wrong = 0;
    private static final StringBuilder told = new StringBuilder();

    private static void same(String call, long got, long want) {
        if (got != want && wrong++ < 20) {
            System.out.println(told + "\n  " + call + " answered " + got + ", due is " + want);
        }
    }

    private static final Random random = new Random(20);

    /** Mostly from low to high, now and then beside it. */
    private static int from(int low, int high) {
        if (random.nextInt(25) == 0) {
            int[] beside = {low - 1, high + 1, Integer.MIN_VALUE, Integer.MAX_VALUE, -low, high + 1000};
            return beside[random.nextInt(beside.length)];
        }
        return low + random.nextInt(high - low + 1);
    }

    private static int row(int n, int figures) {
        int row = 0;
        for (int k = 0; k < Math.min(Math.max(n, 1), 8); k++) {
            row = row * 10 + random.nextInt(figures);
        }
        if (random.nextInt(20) == 0) {
            int[] others = {row * 10, -row, row + 4, Integer.MIN_VALUE, Integer.MAX_VALUE, row + 1000};
            return others[random.nextInt(others.length)];
        }
        return row;
    }

    private static String text() {
        int on = random.nextInt(10);
        int back = random.nextInt(Math.min(9, 10 - on) + 1);
        if (random.nextInt(4) == 0) {
            on = 0;
            back = 0;
        }
        StringBuilder text = new StringBuilder("S").append(on).append(back).append(random.nextInt(10))
                .append(random.nextInt(10)).append(random.nextInt(10)).append(1 + random.nextInt(6));
        List<String> parts = new ArrayList<>();
        List<Integer> cells = new ArrayList<>(List.of(0, 1, 2, 3, 4, 5, 6, 7, 8, 9));
        java.util.Collections.shuffle(cells, random);
        int many = random.nextInt(3) == 0 ? random.nextInt(11) : random.nextInt(4);
        for (int k = 0; k < many; k++) {
            parts.add("F" + cells.get(k) + (1 + random.nextInt(9)));
        }
        if (random.nextInt(3) > 0) {
            parts.add("A" + (1 + random.nextInt(9)));
        }
        if (random.nextInt(4) > 0) {
            parts.add("T" + random.nextInt(10) + random.nextInt(random.nextBoolean() ? 7 : 2));
        }
        java.util.Collections.shuffle(parts, random);
        parts.forEach(text::append);
        if (random.nextInt(3) == 0) {
            String letters = "SFAT0123456789X/:\u00ff";
            int place = random.nextInt(text.length());
            text.setCharAt(place, letters.charAt(random.nextInt(letters.length())));
        }
        if (random.nextInt(6) == 0) {
            text.append("FAT".charAt(random.nextInt(3)));
        }
        return text.substring(0, Math.min(40, random.nextInt(6) == 0 ? random.nextInt(text.length()) : text.length()));
    }

    private static int tell(GoneOverboard x, Model model) {
        String text = text();
        same("wipe", x.wipe(), model.text.length());
        for (int k = 0; k < text.length(); k++) {
            same("write", x.write(text.charAt(k)), k + 1);
        }
        model.text = text;
        told.append("\n  text ").append(text);
        same("fault", x.fault(), model.fault());
        same("search", x.search(), model.search());
        return text.length() + 3;
    }

    private static void act(GoneOverboard x, Model model) {
        int kind = random.nextInt(9);
        int a = from(0, 2);
        told.append("\n  act ").append(kind).append(' ').append(a);
        switch (kind) {
            case 0: case 1: case 2: same("look", x.look(a), model.look(a)); break;
            case 3: same("lookAboard", x.lookAboard(), model.lookAboard()); break;
            case 4: case 5:
                int i = from(0, 9);
                int j = from(0, 9);
                int low = random.nextInt(9) == 0 ? i : Math.min(i, j);
                int high = random.nextInt(9) == 0 ? j : Math.max(i, j);
                int tenths = from(1, 9);
                told.append(' ').append(low).append(' ').append(high).append(' ').append(tenths);
                same("hear", x.hear(low, high, tenths), model.hear(low, high, tenths));
                break;
            case 6: same("undo", x.undo(), model.undo()); break;
            case 7: same("keep", x.keep(a - 1), model.keep(a - 1)); break;
            default: same("again", x.again(a - 1), model.again(a - 1)); break;
        }
    }

    private static void ask(GoneOverboard x, Model model) {
        boolean upper = random.nextInt(3) > 0;
        int n = from(1, random.nextInt(3) == 0 ? 4 : 2);
        int row = row(n, 4);
        int a = from(0, 10);
        int i = from(0, 9);
        int j = from(0, 9);
        switch (random.nextInt(16)) {
            case 0:
                long all = a < 0 || a > 10 ? OUTSIDE : model.now.weights[a].longValueExact();
                same("weight " + a, x.weight(a), all);
                break;
            case 1: same("likely " + a, x.likely(a, upper), model.likely(a, upper)); break;
            case 2: same("likeliest", x.likeliest(), model.likeliest()); break;
            case 3: case 4: same("by " + n + " " + row, x.by(n, row, upper), model.by(n, row, upper)); break;
            case 5: same("best " + n, x.best(n, upper), model.best(n, upper)); break;
            case 6: same("bestRow " + n, x.bestRow(n), model.bestRow(n)); break;
            case 7:
                int tenths = from(1, 10);
                same("soon " + tenths, x.soon(tenths), model.soon(tenths));
                break;
            case 8: same("first " + n, x.first(n, upper), model.first(n, upper)); break;
            case 9: same("withSecond " + n, x.withSecond(n, upper), model.withSecond(n, upper)); break;
            case 10: same("lanes", x.lanes(), model.lanes()); break;
            case 11:
                int looks = from(1, 8);
                int judged = row(looks, random.nextInt(4) == 0 ? 10 : 4);
                same("judge " + looks + " " + judged, x.judge(looks, judged), model.judge(looks, judged));
                break;
            case 12: same("said " + (a - 1), x.said(a / 5), model.said(a / 5)); break;
            case 13:
                int low = random.nextInt(9) == 0 ? i : Math.min(i, j);
                int high = random.nextInt(9) == 0 ? j : Math.max(i, j);
                int by = from(1, 9);
                same("trust " + low + " " + high + " " + by, x.trust(low, high, by, upper), model.trust(low, high, by, upper));
                break;
            case 14:
                int m = from(1, 30);
                if (random.nextInt(4) == 0) {
                    long v = random.nextLong();
                    same("seed " + v, x.seed(v), model.seed(v));
                }
                same("trials " + m + " " + n + " " + row, x.trials(m, n, row), model.trials(m, n, row));
                break;
            default:
                int what = from(0, 11);
                same("count " + what, x.count(what), model.count(what));
                break;
        }
    }

    private static void whole(GoneOverboard x, Model model) {
        for (int place = 0; place < 11; place++) {
            same("weight " + place, x.weight(place), model.now.weights[place].longValueExact());
        }
        for (int what = 0; what < 12; what++) {
            same("count " + what, x.count(what), model.count(what));
        }
        same("said 0", x.said(0), model.said(0));
        same("said 1", x.said(1), model.said(1));
    }

    private static void run() {
        GoneOverboard x = new GoneOverboard();
        Model model = new Model();
        told.setLength(0);
        for (int calls = 0; calls < CALLS - 60; calls++) {
            int kind = random.nextInt(40);
            if (kind == 0) {
                calls += tell(x, model);
            } else if (kind < 8) {
                act(x, model);
            } else if (kind < 9) {
                whole(x, model);
                calls += 24;
            } else {
                ask(x, model);
            }
        }
        same("the seed", x.seed(0), model.seed(0));
    }

    public static void main(String[] args) {
        for (int k = 0; k < RUNS && wrong == 0; k++) {
            run();
        }
        System.out.println(wrong == 0 ? "all answers are as the model's" : wrong + " answers are not as the model's");
        if (wrong != 0) {
            System.exit(1);
        }
    }
}
