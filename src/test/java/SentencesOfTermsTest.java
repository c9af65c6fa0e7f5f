import java.util.ArrayList;
import java.util.Arrays;
import java.util.HashMap;
import java.util.List;
import java.util.Map;
import java.util.Random;

/** What Terms 1 to 7 say of all there can be, done as they say it: each text, each PLAN, each order, each turn. */
public final class SentencesOfTermsTest {
    public static void main(String[] args) {
        Edges.run(SentencesOfTermsTest.class);
    }

    private static void makes(String text, String inches) {
        TapeRings x = new TapeRings();
        Edges.due("splice() of " + text, Check.splice(x, text), inches.split(" ").length);
        Edges.dueText("the strip of " + text, Check.inHand(x), inches);
    }

    // ---- term 1

    @Says("An INCH has a set of SOUNDS, as bits (bit s for SOUND s; 0: nothing).")
    static void term1_anInchHasASetOfSounds() {
        makes("0", "0");
        for (int bits = 2; bits <= 1022; bits += 2) {
            StringBuilder text = new StringBuilder("[");
            for (int sound = 9; sound >= 1; sound--) {
                text.append((bits >> sound & 1) == 1 ? "" + sound : "");
            }
            makes(text + "]", "" + bits);
        }
    }

    @Says("ATOM: a digit 0 .. 9 (one INCH with that SOUND; 0: nothing);")
    static void term1_anAtomIsADigit() {
        for (int digit = 0; digit <= 9; digit++) {
            makes("" + digit, "" + (digit == 0 ? 0 : 1 << digit));
        }
        makes("1234567890", "2 4 8 16 32 64 128 256 512 0");
    }

    @Says("TERMS of a ROW are put one behind another from the left;")
    static void term1_termsStandOneBehindAnotherFromTheLeft() {
        makes("123", "2 4 8");
        makes("12(34)[56]7", "2 4 8 16 96 128");
        makes("(1(2(3)4)5)", "2 4 8 16 32");
        makes("12/1(34)/2(56)", "2 44 80");
        makes("1*2(23)~4", "2 2 8 4 16");
    }

    @Says("A text is none at the first sign that can't stand where it is.")
    static void term1_aTextIsNoneAtTheFirstSignThatCantStand() {
        String signs = "019*~/[]():";
        List<String> texts = new ArrayList<>(List.of(""));
        for (int from = 0, length = 1; length <= 4; length++) {
            int to = texts.size();
            for (; from < to; from++) {
                for (char sign : signs.toCharArray()) {
                    texts.add(texts.get(from) + sign);
                }
            }
        }
        for (String text : texts) {
            readsAsTold(text);
        }
    }

    @Says("SPLICES: a text of at most 60 signs tells a STRIP.")
    static void term1_longTextsAreNoneAtTheFirstSignThatCantStand() {
        Random random = new Random(1);
        for (int run = 0; run < 200; run++) {
            StringBuilder text = new StringBuilder();
            int length = 50 + random.nextInt(14);
            while (text.length() < length) {
                char sign = "012~~~~/1[1](1)*2".charAt(random.nextInt(17));
                if (canBegin(text.toString() + sign) || random.nextInt(400) == 0) {
                    text.append(sign);
                }
            }
            readsAsTold(text.toString());
        }
    }

    private static void readsAsTold(String text) {
        int p = 0;
        while (p < text.length() && p < 60 && canBegin(text.substring(0, p + 1))) {
            p++;
        }
        int answer = Check.splice(new TapeRings(), text);
        if (p == text.length() && isText(text)) {
            Edges.due("splice() of " + text + " tells a strip", answer > 0 || answer <= -100, true);
        } else {
            Edges.due("splice() of " + text, answer, -1 - p);
        }
    }

    /** There are signs that make a whole text of it. */
    private static boolean canBegin(String text) {
        for (String behind : new String[] {"", "1", "11", "2", "]", "1]"}) {
            for (int closed = 0; closed <= 5; closed++) {
                if (isText(text + behind + ")".repeat(closed))) {
                    return true;
                }
            }
        }
        return false;
    }

    private static boolean isText(String text) {
        return behindRow(text, 0, 0) == text.length();
    }

    /** One of these signs stands there. */
    private static boolean stands(String text, int at, String signs) {
        return at >= 0 && at < text.length() && signs.indexOf(text.charAt(at)) >= 0;
    }

    private static int behindRow(String text, int from, int depth) {
        int at = behindTerm(text, from, depth);
        while (at >= 0 && at < text.length() && !stands(text, at, ")")) {
            boolean over = stands(text, at, "/") && stands(text, at + 1, "123456789");
            at = behindTerm(text, over ? at + 2 : at, depth);
        }
        return at;
    }

    private static int behindTerm(String text, int from, int depth) {
        int at = behindAtom(text, from, depth);
        while (stands(text, at, "~") || (stands(text, at, "*") && stands(text, at + 1, "23456789"))) {
            at += stands(text, at, "~") ? 1 : 2;
        }
        return at;
    }

    private static int behindAtom(String text, int from, int depth) {
        if (stands(text, from, "0123456789")) {
            return from + 1;
        }
        if (stands(text, from, "[") && stands(text, from + 1, "123456789")) {
            int at = from + 2;
            while (stands(text, at, "123456789")) {
                at++;
            }
            return stands(text, at, "]") ? at + 1 : -1;
        }
        if (!stands(text, from, "(") || depth == 5) {
            return -1;
        }
        int at = behindRow(text, from + 1, depth + 1);
        return stands(text, at, ")") ? at + 1 : -1;
    }

    // ---- term 2

    @Says("STEADY: the greatest TICK told for a MOTOR (0 at first).")
    static void term2_steadyIs0AtFirst() {
        TapeRings x = new TapeRings();
        Check.ring(x, "110100", 0, 0);
        Check.ring(x, "1011", 1, 2);
        x.wish(0, 2);
        x.wish(1, 2);
        int met = 0;
        for (int tick = 0; tick < 12; tick++) {
            met += x.heard(0, tick) == 2 && x.heard(1, tick) == 2 ? 1 : 0;
        }
        Edges.due("often() from 0 on", x.often(), met);
        x.clear();
        Check.ring(x, "1000", 0, 0);
        x.wish(0, 2);
        x.motor(0, 0, 0);
        Edges.due("often() of one that stands from 0 on", x.often(), 1);
        x.set(0, 1, 1);
        Edges.due("often() of one that stands elsewhere", x.often(), 0);
    }

    @Says("each a STRIP, with a MOTOR, a START (an INCH),")
    static void term2_aRingIsAStripWithAMotorAndAStart() {
        TapeRings x = new TapeRings();
        String[] texts = {"1", "[12]3", "456", "7890"};
        for (int ring = 0; ring < 4; ring++) {
            Check.ring(x, texts[ring], ring & 1, ring);
        }
        int[][] inches = {{2}, {6, 8}, {16, 32, 64}, {128, 256, 512, 0}};
        for (int ring = 0; ring < 4; ring++) {
            Edges.due("length of " + ring, x.of(ring, 0), inches[ring].length);
            Edges.due("motor of " + ring, x.of(ring, 1), ring & 1);
            Edges.due("start of " + ring, x.of(ring, 2), ring);
            for (int i = 0; i < inches[ring].length; i++) {
                Edges.due("inch " + i + " of " + ring, x.inch(ring, i), inches[ring][i]);
            }
        }
    }

    @Says("At TICK t a HEAD with offset o is at INCH START and WAY and o, by LENGTH (from 0 on).")
    static void term2_aHeadIsAtStartAndWayAndOffset() {
        Random random = new Random(2);
        for (int length = 1; length <= 24; length++) {
            for (int offset = 0; offset <= 23; offset++) {
                TapeRings x = new TapeRings();
                Check.ring(x, digits(random, length, 10), 1, random.nextInt(length));
                x.motor(1, random.nextInt(9), random.nextInt(19) - 9);
                x.motor(1, random.nextInt(9), random.nextInt(19) - 9);
                x.head(0, offset, true);
                if (offset > 0) {
                    x.head(0, 0, false);
                }
                for (int tick : new int[] {0, 1, 2, 5, 9, 30, 1000}) {
                    int inch = (int) Math.floorMod(x.of(0, 2) + x.way(1, tick) + offset, (long) length);
                    Edges.due("heard(0, " + tick + ")", x.heard(0, tick), x.inch(0, inch));
                }
            }
        }
    }

    private static String digits(Random random, int length, int below) {
        StringBuilder text = new StringBuilder();
        for (int i = 0; i < length; i++) {
            text.append(random.nextInt(below));
        }
        return text.toString();
    }

    // ---- term 3

    @Says("LEAST: of all PLANS by which all MARKS are TRUE that of the least sum of COSTS;")
    static void term3_theLeastOfAllPlans() {
        Random random = new Random(3);
        for (int run = 0; run < 150; run++) {
            int rings = 1 + random.nextInt(2);
            String[] texts = new String[rings];
            int[] starts = new int[rings];
            for (int ring = 0; ring < rings; ring++) {
                texts[ring] = digits(random, 1 + random.nextInt(rings == 1 ? 8 : 4), 4);
                starts[ring] = random.nextInt(texts[ring].length());
            }
            int[][] marks = new int[1 + random.nextInt(4)][];
            for (int m = 0; m < marks.length; m++) {
                marks[m] = new int[] {random.nextInt(7), 1 + random.nextInt(3)};
            }
            planIsTheLeast(texts, starts, marks);
        }
    }

    private static TapeRings marked(String[] texts, int[] starts, int[][] marks) {
        TapeRings x = new TapeRings();
        for (int ring = 0; ring < texts.length; ring++) {
            Check.ring(x, texts[ring], ring, starts[ring]);
        }
        x.motor(1, 2, -1);
        for (int[] mark : marks) {
            x.mark(mark[0], mark[1]);
        }
        return x;
    }

    /** All PLANS in the order of c, START, RING by RING: the first of the least sum is the one. */
    private static void planIsTheLeast(String[] texts, int[] starts, int[][] marks) {
        List<int[]> plans = new ArrayList<>();
        plans.add(new int[0]);
        for (String text : texts) {
            plans = withOneRingMore(plans, text.length());
        }
        int least = -1;
        String row = "";
        for (int[] plan : plans) {
            int sum = sumOf(plan, starts);
            if ((least == -1 || sum < least) && allTrue(texts, plan, marks)) {
                least = sum;
                row = told(plan);
            }
        }
        TapeRings x = marked(texts, starts, marks);
        Edges.due("plan() of " + String.join(" ", texts), x.plan(), least);
        Edges.dueText("the row of " + String.join(" ", texts), Check.row(x), row);
    }

    private static List<int[]> withOneRingMore(List<int[]> plans, int length) {
        List<int[]> more = new ArrayList<>();
        for (int[] plan : plans) {
            for (int c = 0; c < length; c++) {
                for (int start = 0; start < length - c; start++) {
                    int[] longer = Arrays.copyOf(plan, plan.length + 2);
                    longer[plan.length] = c;
                    longer[plan.length + 1] = start;
                    more.add(longer);
                }
            }
        }
        return more;
    }

    private static int sumOf(int[] plan, int[] starts) {
        int sum = 0;
        for (int ring = 0; ring < starts.length; ring++) {
            sum += 5 * plan[2 * ring] + Math.abs(plan[2 * ring + 1] - starts[ring]);
        }
        return sum;
    }

    private static boolean allTrue(String[] texts, int[] plan, int[][] marks) {
        String[] cut = new String[texts.length];
        int[] starts = new int[texts.length];
        for (int ring = 0; ring < texts.length; ring++) {
            cut[ring] = texts[ring].substring(0, texts[ring].length() - plan[2 * ring]);
            starts[ring] = plan[2 * ring + 1];
        }
        return marked(cut, starts, marks).kept() == (1 << marks.length) - 1;
    }

    private static String told(int[] numbers) {
        StringBuilder text = new StringBuilder();
        for (int n : numbers) {
            text.append(text.length() == 0 ? "" : " ").append(n);
        }
        return text.toString();
    }

    // ---- term 4

    private static final int LAST = 4000;

    private static TapeRings echoing(Random random, int[] weights, int[] heads, int stop) {
        TapeRings x = new TapeRings();
        Check.ring(x, digits(random, 1 + random.nextInt(9), 10), 0, 0);
        Check.ring(x, digits(random, 1 + random.nextInt(9), 10), 1, 0);
        x.motor(1, 5, 2);
        for (int sound = 1; sound <= 9; sound++) {
            weights[sound] = random.nextInt(201);
            x.weight(sound, weights[sound]);
        }
        x.heads(heads[0], heads[1], heads[2], heads[3]);
        x.stop(stop);
        return x;
    }

    private static int[] outs(TapeRings x, int[] weights, int[] heads, int stop) {
        int[] outs = new int[LAST + 1];
        for (int t = 0; t <= LAST; t++) {
            int sum = 0;
            for (int sound = 1; sound <= 9 && t < stop; sound++) {
                sum += (x.heard(-1, t) >> sound & 1) * weights[sound];
            }
            for (int head = 0; head < 4; head += 2) {
                sum += t < heads[head] ? 0 : outs[t - heads[head]] * heads[head + 1] / 100;
            }
            outs[t] = Math.min(sum, 5000);
        }
        return outs;
    }

    @Says("OUT at t: INPUT, and a of a hundred of OUT at t - d, and b of a hundred of OUT at t - e, each cut")
    static void term4_outIsInputAndBothHeads() {
        Random random = new Random(4);
        for (int run = 0; run < 60; run++) {
            int[] weights = new int[10];
            int[] heads = {1 + random.nextInt(20), random.nextInt(101), 1 + random.nextInt(20), random.nextInt(101)};
            int stop = random.nextInt(20);
            TapeRings x = echoing(random, weights, heads, stop);
            int[] due = outs(x, weights, heads, stop);
            for (int tick : new int[] {0, 1, 2, 3, 5, 8, 13, 19, 20, 21, 40, 90, 400, 1999, 2000, 3999, 4000}) {
                Edges.due("out(" + tick + ") of run " + run, x.out(tick), due[tick]);
            }
        }
    }

    @Says({"Behind STOP: it DIES at the first TICK from STOP on from which on OUT is 0 for ever;", "else it GOES ROUND."})
    static void term4_itDiesOrGoesRound() {
        Random random = new Random(5);
        for (int run = 0; run < 300; run++) {
            int[] weights = new int[10];
            int all = random.nextInt(3) == 0 ? 100 : random.nextInt(101);
            int first = random.nextInt(all + 1);
            int[] heads = {1 + random.nextInt(20), first, 1 + random.nextInt(20), all - first};
            int stop = random.nextInt(25);
            TapeRings x = echoing(random, weights, heads, stop);
            String told = endOf(outs(x, weights, heads, stop), stop);
            int answer = x.dies();
            Edges.dueText("dies() of run " + run, answer == -2 ? "round " + Check.row(x) : "" + answer, told);
        }
    }

    /** Goes on from STOP until there are 20 TICKS of 0, or the same 20 come again. */
    private static String endOf(int[] outs, int stop) {
        Map<String, Integer> seen = new HashMap<>();
        for (int t = stop; t + 19 <= LAST; t++) {
            String twenty = told(Arrays.copyOfRange(outs, t, t + 20));
            if (twenty.equals(told(new int[20]))) {
                return "" + t;
            }
            Integer ahead = seen.put(twenty, t);
            if (ahead != null) {
                return "round " + ahead + " " + (t - ahead);
            }
        }
        return "-3";
    }

    // ---- term 5

    @Says("each SOUNDS as bits, or a GAP (NONE).")
    static void term5_aPlaceIsSoundsOrAGap() {
        for (int bits = -1; bits <= 1022; bits += bits < 0 ? 1 : 2) {
            TapeRings x = new TapeRings();
            Edges.due("tape(" + bits + ")", x.tape(bits), 1);
            Edges.due("mended(0) of " + bits, x.mended(0), bits == -1 ? 1022 : bits);
            x.tape(4);
            Edges.due("span(0) of " + bits + ", 4", x.span(0), bits == -1 || bits == 4 ? 1 : 2);
        }
    }

    private static int[] places(Random random, int length) {
        int[] places = new int[length];
        int period = 1 + random.nextInt(6);
        for (int t = 0; t < length; t++) {
            places[t] = t < period || random.nextInt(12) == 0 ? 2 * random.nextInt(4) : places[t - period];
        }
        for (int gaps = random.nextInt(4); gaps > 0 && length > 0; gaps--) {
            places[random.nextInt(length)] = -1;
        }
        return places;
    }

    private static TapeRings taped(int[] places) {
        TapeRings x = new TapeRings();
        for (int bits : places) {
            x.tape(bits);
        }
        return x;
    }

    @Says("A SPAN p (1 .. 24) FITS, if no two places a multiple of p apart that are no GAPS are unlike.")
    static void term5_aSpanFitsByAnyTwoPlaces() {
        Random random = new Random(6);
        for (int run = 0; run < 200; run++) {
            int[] places = places(random, random.nextInt(61));
            TapeRings x = taped(places);
            int found = 0;
            for (int p = 1; p <= 24; p++) {
                if (spanFits(places, p)) {
                    Edges.due("span(" + found + ") of run " + run, x.span(found), p);
                    found++;
                }
            }
            Edges.due("span(" + found + ") of run " + run, x.span(found), -1);
        }
    }

    private static boolean spanFits(int[] places, int p) {
        for (int one = 0; one < places.length; one++) {
            for (int other = one + p; other < places.length; other += p) {
                if (places[one] != -1 && places[other] != -1 && places[one] != places[other]) {
                    return false;
                }
            }
        }
        return true;
    }

    @Says("if there are two STRIPS of p and q INCHES so that each place t that is no GAP has just the SOUNDS")
    static void term5_aPairFitsIfThereAreTwoStrips() {
        Random random = new Random(7);
        for (int run = 0; run < 60; run++) {
            int[] places = places(random, random.nextInt(12));
            TapeRings x = taped(places);
            int found = 0;
            for (int sum = 2; sum <= 5; sum++) {
                for (int p = 1; 2 * p <= sum; p++) {
                    if (stripsOf(places, p, sum - p) > 0) {
                        Edges.due("pair(" + found + ") of run " + run, x.pair(found), 100 * p + sum - p);
                        found++;
                    }
                }
            }
            int next = x.pair(found);
            Edges.due("pair(" + found + ") of run " + run + " is of more", next == -1 || next / 100 + next % 100 > 5, true);
        }
    }

    /** How many STRIPS of SOUNDS 1 and 2 there are for a PAIR: all are tried. */
    private static int stripsOf(int[] places, int p, int q) {
        int found = 0;
        for (int both = 0; both < 1 << 2 * (p + q); both++) {
            boolean fits = true;
            for (int t = 0; t < places.length && fits; t++) {
                int one = both >> 2 * (t % p) & 3;
                int other = both >> 2 * (p + t % q) & 3;
                fits = places[t] == -1 || 2 * (one | other) == places[t];
            }
            found += fits ? 1 : 0;
        }
        return found;
    }

    // ---- term 6

    @Says({"JOINED: all in some order, each as it is or turned;",
        "SHORTEST: the fewest SOUNDS; of equal ones the least row."})
    static void term6_theShortestOfAllOrders() {
        Random random = new Random(8);
        for (int run = 0; run < 300; run++) {
            List<String> pieces = new ArrayList<>();
            TapeRings x = new TapeRings();
            for (int n = random.nextInt(6); n > 0; n--) {
                String piece = digits(random, 1 + random.nextInt(5), 3);
                pieces.add(piece);
                x.piece((int) (Long.parseLong(piece, 16) << 4 * (8 - piece.length())), piece.length());
            }
            String shortest = shortest("", pieces);
            Edges.due("join() of " + pieces, x.join(), shortest.length());
            Edges.dueText("the row of " + pieces, Check.row(x).replace(" ", ""), shortest);
        }
    }

    private static String shortest(String laid, List<String> left) {
        String best = left.isEmpty() ? laid : null;
        for (int i = 0; i < left.size(); i++) {
            List<String> rest = new ArrayList<>(left);
            String piece = rest.remove(i);
            String turned = new StringBuilder(piece).reverse().toString();
            best = lesser(best, shortest(laidOver(laid, piece), rest));
            best = lesser(best, shortest(laidOver(laid, turned), rest));
        }
        return best;
    }

    private static String lesser(String one, String other) {
        if (one == null || other.length() != one.length()) {
            return one == null || other.length() < one.length() ? other : one;
        }
        return other.compareTo(one) < 0 ? other : one;
    }

    private static String laidOver(String laid, String piece) {
        int most = Math.min(laid.length(), piece.length());
        while (!laid.endsWith(piece.substring(0, most))) {
            most--;
        }
        return laid + piece.substring(most);
    }

    // ---- term 7

    @Says("STRIPS of RINGS as they were kept, each of a RING and a DAY")
    static void term7_versionsAreStripsAsTheyWereKept() {
        TapeRings x = new TapeRings();
        Check.ring(x, "123", 0, 2);
        x.ring(1, 0);
        Edges.due("keep(1, 3)", x.keep(1, 3), 0);
        Check.splice(x, "[45]");
        x.over(1, 0, 1);
        Edges.due("keep(1, 3)", x.keep(1, 3), 1);
        x.cut(1, 2);
        Edges.due("keep(1, 4)", x.keep(1, 4), 2);
        Edges.due("keep(0, 4)", x.keep(0, 4), 3);
        String[] due = {"2 4 8", "50 4 8", "50", "2 4 8"};
        for (int version = 0; version < 4; version++) {
            x.fetch(version);
            Edges.dueText("version " + version, Check.inHand(x), due[version]);
        }
        Edges.due("of ring 1 at day 3", x.known(1, 3), 1);
        Edges.due("of ring 1 at day 4", x.known(1, 4), 2);
        Edges.due("of ring 0 at day 3", x.known(0, 3), -1);
        Edges.due("of ring 0 at day 4", x.known(0, 4), 3);
    }

    @Says({"EDITS of two STRIPS: the fewest of: an INCH changed, one put in, one taken out,",
        "so that the one is the other, turned by any number of INCHES (as a ring)."})
    static void term7_editsAreTheFewestStepsThereAre() {
        List<String> strips = new ArrayList<>();
        for (int length = 1; length <= 4; length++) {
            for (int bits = 0; bits < 1 << length; bits++) {
                strips.add(Integer.toBinaryString(1 << length | bits).substring(1));
            }
        }
        for (String one : strips) {
            Map<String, Integer> steps = stepsFrom(one);
            for (String other : strips) {
                int due = 99;
                for (int turn = 0; turn < other.length(); turn++) {
                    due = Math.min(due, steps.get(other.substring(turn) + other.substring(0, turn)));
                }
                TapeRings x = new TapeRings();
                Check.ring(x, one, 0, 0);
                Check.ring(x, other, 0, 0);
                x.keep(0, 0);
                x.keep(1, 0);
                Edges.due("edits of " + one + ", " + other, x.edits(0, 1), due);
            }
        }
    }

    /** To each STRIP of 0 and 1 of up to five INCHES: how many it takes, one step after another. */
    private static Map<String, Integer> stepsFrom(String strip) {
        Map<String, Integer> steps = new HashMap<>();
        List<String> reached = new ArrayList<>();
        steps.put(strip, 0);
        reached.add(strip);
        for (int i = 0; i < reached.size(); i++) {
            String here = reached.get(i);
            for (String next : oneStepFrom(here)) {
                if (next.length() <= 5 && !steps.containsKey(next)) {
                    steps.put(next, steps.get(here) + 1);
                    reached.add(next);
                }
            }
        }
        return steps;
    }

    private static List<String> oneStepFrom(String strip) {
        List<String> next = new ArrayList<>();
        for (int at = 0; at <= strip.length(); at++) {
            for (String inch : new String[] {"0", "1"}) {
                next.add(strip.substring(0, at) + inch + strip.substring(at));
                if (at < strip.length()) {
                    next.add(strip.substring(0, at) + inch + strip.substring(at + 1));
                }
            }
            if (at < strip.length()) {
                next.add(strip.substring(0, at) + strip.substring(at + 1));
            }
        }
        return next;
    }
}
