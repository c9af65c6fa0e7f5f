import java.util.ArrayList;
import java.util.Arrays;
import java.util.HashMap;
import java.util.List;
import java.util.Map;
import java.util.NoSuchElementException;

/** TapeRings once more, in the slowest and plainest way: what the document says, without a thought of how long it takes. */
final class Model {
    private static final class Wrong extends RuntimeException {
        final int answer;

        Wrong(int answer) {
            super(null, null, false, false);
            this.answer = answer;
        }
    }

    private static final class ModelRing {
        List<Integer> strip;
        int motor;
        int start;
        int heads = 1;
        int wish = 0;

        ModelRing(List<Integer> strip, int motor, int start) {
            this.strip = new ArrayList<>(strip);
            this.motor = motor;
            this.start = start;
        }
    }

    private record Version(int ring, int day, List<Integer> strip) {
    }

    private record Choice(long cost, List<Integer> numbers) {
        boolean lessThan(Choice other) {
            if (cost != other.cost) {
                return cost < other.cost;
            }
            return compare(numbers, other.numbers) < 0;
        }
    }

    private List<Integer> text = new ArrayList<>();
    private List<Integer> hand = new ArrayList<>();
    private final List<ModelRing> rings = new ArrayList<>();
    private final List<Map<Integer, Integer>> motors = List.of(new HashMap<>(), new HashMap<>());
    private final List<int[]> marks = new ArrayList<>();
    private final int[] weights = new int[10];
    private int[] echo = {1, 0, 1, 0};
    private int stop = 0;
    private List<Integer> tape = new ArrayList<>();
    private final List<List<Integer>> pieces = new ArrayList<>();
    private final List<Version> versions = new ArrayList<>();
    private List<Integer> row = new ArrayList<>();

    Model() {
        Arrays.fill(weights, 100);
    }

    private static int compare(List<Integer> a, List<Integer> b) {
        for (int i = 0; i < a.size() && i < b.size(); i++) {
            if (!a.get(i).equals(b.get(i))) {
                return a.get(i) - b.get(i);
            }
        }
        return a.size() - b.size();
    }

    // ---- splices

    int sign(int v) {
        if (text.size() > 96) {
            return -1;
        }
        text.addAll(List.of(v >> 24 & 255, v >> 16 & 255, v >> 8 & 255, v & 255));
        return text.size();
    }

    boolean end(int n) {
        if (n < 0 || n > text.size()) {
            return false;
        }
        text = new ArrayList<>(text.subList(0, n));
        return true;
    }

    int splice() {
        List<Integer> signs = text;
        text = new ArrayList<>();
        int wrong = firstWrong(signs);
        if (wrong >= 0) {
            return -1 - wrong;
        }
        try {
            hand = new Reader(signs).row();
            return hand.size();
        } catch (Wrong w) {
            return w.answer;
        }
    }

    /** The first sign with which no text, of any length, can begin as this one does. */
    private static int firstWrong(List<Integer> signs) {
        for (int n = 1; n <= signs.size() && n <= 60; n++) {
            if (!canBegin(signs.subList(0, n))) {
                return n - 1;
            }
        }
        if (signs.size() > 60) {
            return 60;
        }
        return isText(signs) ? -1 : signs.size();
    }

    private static boolean canBegin(List<Integer> signs) {
        for (String behind : new String[] {"", "1", "11", "2", "]", "1]"}) {
            for (int closed = 0; closed <= 5; closed++) {
                List<Integer> whole = new ArrayList<>(signs);
                (behind + ")".repeat(closed)).chars().forEach(whole::add);
                if (isText(whole)) {
                    return true;
                }
            }
        }
        return false;
    }

    /** Takes away from the inside what can be a TERM until one ROW is left. */
    private static boolean isText(List<Integer> signs) {
        StringBuilder s = new StringBuilder();
        for (int sign : signs) {
            s.append((char) sign);
        }
        int depth = 0;
        for (int i = 0; i < s.length(); i++) {
            depth += s.charAt(i) == '(' ? 1 : s.charAt(i) == ')' ? -1 : 0;
            if (depth > 5) {
                return false;
            }
        }
        String t = s.toString();
        if (t.indexOf('A') >= 0) {
            return false;
        }
        String term = "(?:[0-9]|\\[[1-9]+\\]|A)(?:\\*[2-9]|~)*";
        String row = term + "(?:(?:/[1-9])?" + term + ")*";
        for (int i = 0; i < 100; i++) {
            String less = t.replaceAll("\\(" + row + "\\)", "A");
            if (less.equals(t)) {
                break;
            }
            t = less;
        }
        return t.matches(row);
    }

    /** Reads a text that is one by going down into its parts. */
    private static final class Reader {
        private final List<Integer> signs;
        private int at = 0;

        Reader(List<Integer> signs) {
            this.signs = signs;
        }

        private int next() {
            return at < signs.size() ? signs.get(at) : 0;
        }

        List<Integer> row() {
            List<Integer> row = new ArrayList<>(term());
            while (next() != 0 && next() != ')') {
                int d = 0;
                if (next() == '/') {
                    d = signs.get(at + 1) - '0';
                    at += 2;
                    if (d > row.size()) {
                        throw new Wrong(-101);
                    }
                }
                List<Integer> term = term();
                if (d > term.size()) {
                    throw new Wrong(-101);
                }
                int from = row.size() - d;
                for (int i = 0; i < term.size(); i++) {
                    if (i < d) {
                        row.set(from + i, row.get(from + i) | term.get(i));
                    } else {
                        row.add(term.get(i));
                    }
                }
                if (row.size() > 24) {
                    throw new Wrong(-100);
                }
            }
            return row;
        }

        private List<Integer> term() {
            List<Integer> term = atom();
            while (next() == '*' || next() == '~') {
                List<Integer> become = new ArrayList<>();
                if (next() == '~') {
                    at++;
                    term.forEach(inch -> become.add(0, inch));
                } else {
                    for (int i = '0'; i < signs.get(at + 1); i++) {
                        become.addAll(term);
                    }
                    at += 2;
                    if (become.size() > 24) {
                        throw new Wrong(-100);
                    }
                }
                term = become;
            }
            return term;
        }

        private List<Integer> atom() {
            int sign = next();
            at++;
            if (sign == '(') {
                List<Integer> row = row();
                at++;
                return row;
            }
            int bits = 0;
            if (sign == '[') {
                while (next() != ']') {
                    bits |= 1 << next() - '0';
                    at++;
                }
                at++;
            } else if (sign != '0') {
                bits = 1 << sign - '0';
            }
            return new ArrayList<>(List.of(bits));
        }
    }

    int hand(int i) {
        return i >= 0 && i < hand.size() ? hand.get(i) : -1;
    }

    // ---- rings

    private boolean isRing(int ring) {
        return ring >= 0 && ring < rings.size();
    }

    int ring(int motor, int start) {
        if (hand.isEmpty() || motor < 0 || motor > 1 || start < 0 || start >= hand.size() || rings.size() == 4) {
            return -1;
        }
        rings.add(new ModelRing(hand, motor, start));
        return rings.size() - 1;
    }

    int over(int ring, int inch, int what) {
        if (!isRing(ring) || inch < 0 || inch >= rings.get(ring).strip.size() || what < 0 || what > 1 || hand.isEmpty()) {
            return -1;
        }
        List<Integer> strip = rings.get(ring).strip;
        List<Integer> was = new ArrayList<>(strip);
        for (int i = 0; i < hand.size(); i++) {
            if (inch + i < strip.size()) {
                strip.set(inch + i, hand.get(i) | (what == 1 ? strip.get(inch + i) : 0));
            }
        }
        int others = 0;
        for (int i = 0; i < was.size(); i++) {
            others += was.get(i).equals(strip.get(i)) ? 0 : 1;
        }
        return others;
    }

    int set(int ring, int what, int v) {
        if (!isRing(ring) || what < 0 || what > 1 || v < 0) {
            return -1;
        }
        ModelRing r = rings.get(ring);
        if (v >= (what == 0 ? 2 : r.strip.size())) {
            return -1;
        }
        int was = what == 0 ? r.motor : r.start;
        if (what == 0) {
            r.motor = v;
        } else {
            r.start = v;
        }
        return was;
    }

    int head(int ring, int offset, boolean is) {
        if (!isRing(ring) || offset < 0 || offset > 23) {
            return -1;
        }
        ModelRing r = rings.get(ring);
        if (!is && r.heads == 1 << offset) {
            return -1;
        }
        r.heads = is ? r.heads | 1 << offset : r.heads & ~(1 << offset);
        return Integer.bitCount(r.heads);
    }

    boolean motor(int motor, int tick, int speed) {
        if (motor < 0 || motor > 1 || tick < 0 || tick > 5000 || speed < -9 || speed > 9) {
            return false;
        }
        Map<Integer, Integer> told = motors.get(motor);
        if (!told.containsKey(tick) && told.size() == 12) {
            return false;
        }
        told.put(tick, speed);
        return true;
    }

    int clear() {
        int was = rings.size();
        rings.clear();
        marks.clear();
        motors.get(0).clear();
        motors.get(1).clear();
        return was;
    }

    int count(int what) {
        int[] all = {rings.size(), marks.size(), tape.size(), pieces.size(), versions.size(), row.size(), text.size(), hand.size()};
        return what >= 0 && what < 8 ? all[what] : -1;
    }

    int of(int ring, int what) {
        if (!isRing(ring) || what < 0 || what > 5) {
            throw new NoSuchElementException();
        }
        ModelRing r = rings.get(ring);
        return new int[] {r.strip.size(), r.motor, r.start, r.heads, round(r), r.wish}[what];
    }

    int inch(int ring, int i) {
        return isRing(ring) && i >= 0 && i < rings.get(ring).strip.size() ? rings.get(ring).strip.get(i) : -1;
    }

    // ---- what is heard

    private int speed(int motor, long tick) {
        int latest = -1;
        for (int t : motors.get(motor).keySet()) {
            latest = t <= tick ? Math.max(latest, t) : latest;
        }
        return latest < 0 ? 1 : motors.get(motor).get(latest);
    }

    private int steady(int motor) {
        return motors.get(motor).keySet().stream().mapToInt(t -> t).max().orElse(0);
    }

    private int steady() {
        return Math.max(steady(0), steady(1));
    }

    /** The WAY to a TICK, by a length: tick by tick to the STEADY one, and then as many as are left by 24 times all lengths. */
    private long wayBy(int motor, long tick, int length) {
        long way = 0;
        long steady = steady(motor);
        for (long t = 0; t < tick && t < steady; t++) {
            way += speed(motor, t);
        }
        if (tick > steady) {
            long late = (tick - steady) % length;
            way += late * speed(motor, steady);
        }
        return Math.floorMod(way, (long) length);
    }

    private int round(ModelRing r) {
        long way = 0;
        for (int n = 1;; n++) {
            way += speed(r.motor, steady(r.motor) + n);
            if (way % r.strip.size() == 0) {
                return n;
            }
        }
    }

    long way(int motor, int tick) {
        if (motor < 0 || motor > 1 || tick < 0 || tick > 1000000000) {
            throw new NoSuchElementException();
        }
        long way = 0;
        long steady = steady(motor);
        for (long t = 0; t < tick && t < steady; t++) {
            way += speed(motor, t);
        }
        return tick > steady ? way + (tick - steady) * speed(motor, steady) : way;
    }

    private static int heardOf(ModelRing r, int length, int start, long way) {
        int bits = 0;
        for (int o = 0; o < 24; o++) {
            if ((r.heads >> o & 1) == 1) {
                bits |= r.strip.get((int) Math.floorMod(start + way + o, (long) length));
            }
        }
        return bits;
    }

    private int heardOf(ModelRing r, long tick) {
        return heardOf(r, r.strip.size(), r.start, wayBy(r.motor, tick, r.strip.size()));
    }

    int heard(int ring, long tick) {
        if (tick < 0 || ring != -1 && !isRing(ring)) {
            return -1;
        }
        int bits = 0;
        for (int i = 0; i < rings.size(); i++) {
            bits |= ring == -1 || ring == i ? heardOf(rings.get(i), tick) : 0;
        }
        return bits;
    }

    long all() {
        for (long n = 1;; n++) {
            boolean is = true;
            for (ModelRing r : rings) {
                is &= n % round(r) == 0;
            }
            if (is) {
                return n;
            }
        }
    }

    boolean wish(int ring, int bits) {
        if (!isRing(ring) || bits < 0 || bits > 1022 || bits % 2 == 1) {
            return false;
        }
        rings.get(ring).wish = bits;
        return true;
    }

    private boolean meetsAt(long tick) {
        for (ModelRing r : rings) {
            if ((heardOf(r, tick) & r.wish) != r.wish) {
                return false;
            }
        }
        return true;
    }

    long meets(long from) {
        if (from < 0 || from > 1L << 60) {
            return -1;
        }
        long end = Math.max(from, steady()) + all();
        for (long t = from; t < end; t++) {
            if (meetsAt(t)) {
                return t;
            }
        }
        return -1;
    }

    long often() {
        long n = 0;
        long all = all();
        for (long t = 0; t < all; t++) {
            n += meetsAt(steady() + t) ? 1 : 0;
        }
        return n;
    }

    // ---- plans

    int mark(int tick, int sound) {
        if (tick < 0 || tick > 100000 || sound < 1 || sound > 9 || marks.size() == 6) {
            return -1;
        }
        marks.add(new int[] {tick, sound});
        return marks.size();
    }

    int kept() {
        int bits = 0;
        for (int m = 0; m < marks.size(); m++) {
            if ((heard(-1, marks.get(m)[0]) >> marks.get(m)[1] & 1) == 1) {
                bits |= 1 << m;
            }
        }
        return bits;
    }

    /** Of all that the RINGS can do one behind another, the LEAST for each set of MARKS that come true. */
    private Choice leastPlan() {
        Map<Integer, Choice> ways = new HashMap<>();
        ways.put(0, new Choice(0, List.of()));
        for (ModelRing r : rings) {
            Map<Integer, Choice> with = new HashMap<>();
            for (int c = 0; c < r.strip.size(); c++) {
                int left = r.strip.size() - c;
                long[] way = new long[marks.size()];
                for (int m = 0; m < way.length; m++) {
                    way[m] = wayBy(r.motor, marks.get(m)[0], left);
                }
                for (int start = 0; start < left; start++) {
                    int got = 0;
                    for (int m = 0; m < way.length; m++) {
                        got |= (heardOf(r, left, start, way[m]) >> marks.get(m)[1] & 1) << m;
                    }
                    for (Map.Entry<Integer, Choice> way2 : ways.entrySet()) {
                        List<Integer> numbers = new ArrayList<>(way2.getValue().numbers());
                        numbers.add(c);
                        numbers.add(start);
                        Choice choice = new Choice(way2.getValue().cost() + 5 * c + Math.abs(start - r.start), numbers);
                        int both = got | way2.getKey();
                        if (!with.containsKey(both) || choice.lessThan(with.get(both))) {
                            with.put(both, choice);
                        }
                    }
                }
            }
            ways = with;
        }
        return ways.get((1 << marks.size()) - 1);
    }

    int plan() {
        Choice least = leastPlan();
        if (least == null) {
            return -1;
        }
        row = least.numbers();
        return (int) least.cost();
    }

    int make() {
        Choice least = leastPlan();
        if (least == null) {
            return -1;
        }
        for (int i = 0; i < rings.size(); i++) {
            cut(i, least.numbers().get(2 * i));
            rings.get(i).start = least.numbers().get(2 * i + 1);
        }
        return (int) least.cost();
    }

    int cut(int ring, int c) {
        if (!isRing(ring) || c < 0 || c >= rings.get(ring).strip.size()) {
            return -1;
        }
        ModelRing r = rings.get(ring);
        for (int i = 0; i < c; i++) {
            r.strip.remove(r.strip.size() - 1);
        }
        r.start %= r.strip.size();
        return r.strip.size();
    }

    // ---- echoes

    int weight(int sound, int v) {
        if (sound < 1 || sound > 9 || v < 0 || v > 200) {
            return -1;
        }
        int was = weights[sound];
        weights[sound] = v;
        return was;
    }

    boolean heads(int d, int a, int e, int b) {
        if (d < 1 || d > 20 || e < 1 || e > 20 || a < 0 || a > 100 || b < 0 || b > 100) {
            return false;
        }
        echo = new int[] {d, a, e, b};
        return true;
    }

    int stop(int v) {
        if (v < 0 || v > 2000) {
            return -1;
        }
        int was = stop;
        stop = v;
        return was;
    }

    private int[] outs() {
        int[] out = new int[4001];
        for (int t = 0; t <= 4000; t++) {
            int sum = 0;
            if (t < stop) {
                int bits = heard(-1, t);
                for (int s = 1; s < 10; s++) {
                    sum += (bits >> s & 1) == 1 ? weights[s] : 0;
                }
            }
            if (t >= echo[0]) {
                sum += echo[1] * out[t - echo[0]] / 100;
            }
            if (t >= echo[2]) {
                sum += echo[3] * out[t - echo[2]] / 100;
            }
            out[t] = Math.min(5000, sum);
        }
        return out;
    }

    int out(int tick) {
        return tick < 0 || tick > 4000 ? -1 : outs()[tick];
    }

    /** Remembers each 20 TICKS that it has come by. */
    int dies() {
        int[] out = outs();
        Map<List<Integer>, Integer> seen = new HashMap<>();
        int death = -1;
        int first = -1;
        int again = -1;
        for (int t = stop; t + 19 <= 4000; t++) {
            List<Integer> window = new ArrayList<>();
            int sum = 0;
            for (int i = 0; i < 20; i++) {
                window.add(out[t + i]);
                sum += out[t + i];
            }
            if (sum == 0 && death < 0) {
                death = t;
            }
            if (seen.containsKey(window) && first < 0) {
                first = seen.get(window);
                again = t;
            }
            seen.putIfAbsent(window, t);
        }
        if (death >= 0) {
            return death;
        }
        if (first < 0) {
            return -3;
        }
        row = List.of(first, again - first);
        return -2;
    }

    // ---- old tapes

    int tape(int bits) {
        if (bits < -1 || bits > 1022 || bits != -1 && bits % 2 == 1 || tape.size() == 60) {
            return -1;
        }
        tape.add(bits);
        return tape.size();
    }

    boolean take(int tick, int n) {
        if (tick < 0 || tick > 100000 || n < 0 || n > 60) {
            return false;
        }
        tape = new ArrayList<>();
        for (int i = 0; i < n; i++) {
            tape.add(heard(-1, tick + i));
        }
        return true;
    }

    boolean gap(int place) {
        if (place < 0 || place >= tape.size()) {
            return false;
        }
        tape.set(place, -1);
        return true;
    }

    int wipe() {
        int was = tape.size();
        tape.clear();
        return was;
    }

    int span(int i) {
        List<Integer> fit = new ArrayList<>();
        for (int p = 1; p <= 24; p++) {
            boolean fits = true;
            for (int a = 0; a < tape.size(); a++) {
                for (int b = a; b < tape.size(); b += p) {
                    fits &= tape.get(a) == -1 || tape.get(b) == -1 || tape.get(a).equals(tape.get(b));
                }
            }
            if (fits) {
                fit.add(p);
            }
        }
        return i >= 0 && i < fit.size() ? fit.get(i) : -1;
    }

    /** One SOUND fits if no place without it has it of both STRIPS, and each place with it can have it of one. */
    private boolean fits(int p, int q) {
        for (int s = 1; s < 10; s++) {
            for (int t = 0; t < tape.size(); t++) {
                if (tape.get(t) != -1 && (tape.get(t) >> s & 1) == 1 && !free(s, t, p) && !free(s, t, q)) {
                    return false;
                }
            }
        }
        return true;
    }

    private boolean free(int sound, int place, int length) {
        for (int t = place % length; t < tape.size(); t += length) {
            if (tape.get(t) != -1 && (tape.get(t) >> sound & 1) == 0) {
                return false;
            }
        }
        return true;
    }

    private List<int[]> pairs() {
        List<int[]> fit = new ArrayList<>();
        for (int p = 1; p <= 24; p++) {
            for (int q = p; q <= 24; q++) {
                if (fits(p, q)) {
                    fit.add(new int[] {p, q});
                }
            }
        }
        fit.sort((a, b) -> a[0] + a[1] != b[0] + b[1] ? a[0] + a[1] - b[0] - b[1] : a[0] - b[0]);
        return fit;
    }

    int pair(int i) {
        List<int[]> fit = pairs();
        return i >= 0 && i < fit.size() ? 100 * fit.get(i)[0] + fit.get(i)[1] : -1;
    }

    int mended(int place) {
        List<int[]> fit = pairs();
        if (place < 0 || place >= tape.size() || fit.isEmpty()) {
            return -1;
        }
        int bits = 0;
        for (int s = 1; s < 10; s++) {
            if (free(s, place, fit.get(0)[0]) || free(s, place, fit.get(0)[1])) {
                bits |= 1 << s;
            }
        }
        return bits;
    }

    // ---- pieces

    int piece(int v, int n) {
        if (n < 1 || n > 8 || pieces.size() == 5) {
            return -1;
        }
        List<Integer> piece = new ArrayList<>();
        for (char c : String.format("%08x", v).substring(0, n).toCharArray()) {
            if (c > '9') {
                return -1;
            }
            piece.add(c - '0');
        }
        pieces.add(piece);
        return pieces.size() - 1;
    }

    int burn() {
        int was = pieces.size();
        pieces.clear();
        return was;
    }

    int join() {
        row = joined(new ArrayList<>(), pieces);
        return row.size();
    }

    private static List<Integer> joined(List<Integer> laid, List<List<Integer>> left) {
        if (left.isEmpty()) {
            return laid;
        }
        List<Integer> best = null;
        for (int i = 0; i < left.size(); i++) {
            List<List<Integer>> rest = new ArrayList<>(left);
            List<Integer> piece = rest.remove(i);
            List<Integer> turned = new ArrayList<>();
            piece.forEach(sound -> turned.add(0, sound));
            for (List<Integer> p : List.of(piece, turned)) {
                List<Integer> whole = joined(laidOver(laid, p), rest);
                if (best == null || whole.size() < best.size() || whole.size() == best.size() && compare(whole, best) < 0) {
                    best = whole;
                }
            }
        }
        return best;
    }

    private static List<Integer> laidOver(List<Integer> laid, List<Integer> piece) {
        int most = 0;
        for (int k = 0; k <= laid.size() && k <= piece.size(); k++) {
            if (laid.subList(laid.size() - k, laid.size()).equals(piece.subList(0, k))) {
                most = k;
            }
        }
        List<Integer> both = new ArrayList<>(laid);
        both.addAll(piece.subList(most, piece.size()));
        return both;
    }

    // ---- versions

    int keep(int ring, int day) {
        if (!isRing(ring) || day < 0 || day > 999 || versions.size() == 16
                || !versions.isEmpty() && day < versions.get(versions.size() - 1).day()) {
            return -1;
        }
        versions.add(new Version(ring, day, List.copyOf(rings.get(ring).strip)));
        return versions.size() - 1;
    }

    int known(int ring, int day) {
        int latest = -1;
        for (int i = 0; i < versions.size(); i++) {
            if (versions.get(i).ring() == ring && versions.get(i).day() <= day) {
                latest = i;
            }
        }
        return latest;
    }

    int fetch(int version) {
        if (version < 0 || version >= versions.size()) {
            return -1;
        }
        hand = new ArrayList<>(versions.get(version).strip());
        return hand.size();
    }

    /** Turns the one and the other, too. */
    int edits(int a, int b) {
        if (a < 0 || b < 0 || a >= versions.size() || b >= versions.size()) {
            return -1;
        }
        List<Integer> one = versions.get(a).strip();
        List<Integer> other = versions.get(b).strip();
        int fewest = 100;
        for (int i = 0; i < one.size(); i++) {
            for (int j = 0; j < other.size(); j++) {
                fewest = Math.min(fewest, distance(turned(one, i), turned(other, j)));
            }
        }
        return fewest;
    }

    private static List<Integer> turned(List<Integer> strip, int by) {
        List<Integer> turned = new ArrayList<>(strip.subList(by, strip.size()));
        turned.addAll(strip.subList(0, by));
        return turned;
    }

    private static int distance(List<Integer> a, List<Integer> b) {
        int[][] d = new int[a.size() + 1][b.size() + 1];
        for (int i = 0; i <= a.size(); i++) {
            for (int j = 0; j <= b.size(); j++) {
                if (i == 0 || j == 0) {
                    d[i][j] = i + j;
                } else {
                    int same = a.get(i - 1).equals(b.get(j - 1)) ? 0 : 1;
                    d[i][j] = Math.min(d[i - 1][j - 1] + same, 1 + Math.min(d[i - 1][j], d[i][j - 1]));
                }
            }
        }
        return d[a.size()][b.size()];
    }

    int row(int i) {
        if (i < 0 || i >= row.size()) {
            throw new NoSuchElementException();
        }
        return row.get(i);
    }
}
