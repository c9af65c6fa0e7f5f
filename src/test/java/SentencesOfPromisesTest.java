import java.io.IOException;
import java.lang.reflect.InvocationTargetException;
import java.lang.reflect.Method;
import java.lang.reflect.Modifier;
import java.nio.file.Files;
import java.nio.file.Path;
import java.util.ArrayList;
import java.util.Arrays;
import java.util.List;
import java.util.NoSuchElementException;
import java.util.Random;

/** What the promises say besides their edges: 512 calls, the interface, what calls answer by what others answer. */
public final class SentencesOfPromisesTest {
    public static void main(String[] args) {
        Edges.run(SentencesOfPromisesTest.class);
    }

    private static TapeRings ringOf(String text, int start) {
        TapeRings x = new TapeRings();
        Check.ring(x, text, 0, start);
        return x;
    }

    // ---- what it is

    @Says({"A studio of tape rings: rings spliced by a language of sounds, laid over one another at slants, turned round "
            + "and repeated; run by two motors whose speeds change, read by several heads; what is heard at any tick, when "
            + "told sounds meet and how often; the least turning and cutting by which marks come true; echoes of two heads "
            + "that die or go round for ever; old tapes taken apart into one ring or two; torn pieces joined; versions kept "
            + "by days and compared over all turns."})
    static void promise1_aStudioOfTapeRings() {
        TapeRings x = new TapeRings();
        Edges.due("a ring", Check.ring(x, "(12/1[34])~*2", 0, 0), 0);
        Edges.due("another", Check.ring(x, "500", 1, 1), 1);
        Edges.due("a speed", x.motor(1, 4, -1), true);
        Edges.due("a head", x.head(1, 1, true), 2);
        Edges.due("heard at 5", x.heard(-1, 5), 2);
        Edges.due("heard at 7", x.heard(-1, 7), 2 + 32);
        x.wish(0, 2);
        x.wish(1, 32);
        Edges.due("it meets", x.meets(4), 7);
        Edges.due("so often", x.often(), 4);
        x.mark(0, 1);
        Edges.due("the least plan", x.make(), 1);
        Edges.due("the mark is true", x.kept(), 1);
        x.stop(3);
        x.heads(1, 100, 1, 0);
        Edges.due("it goes round", x.dies(), -2);
        x.heads(1, 50, 2, 10);
        Edges.due("it dies", x.dies(), 15);
        x.take(4, 9);
        Edges.due("one ring", x.span(0), 6);
        Edges.due("two rings", x.pair(0), 203);
        x.piece(0x12300000, 3);
        x.piece(0x54300000, 3);
        Edges.due("joined", x.join(), 5);
        x.keep(0, 1);
        x.cut(0, 1);
        Edges.due("laid over it", x.over(0, 2, 1), 1);
        x.keep(0, 2);
        Edges.due("the one of day 1", x.known(0, 1), 0);
        Edges.due("compared", x.edits(0, 1), 2);
    }

    /** Each of these is one call: what stands then is something of all. */
    private static final List<Edges.Call> STEPS = List.of(x -> x.sign(0x31325B33), x -> x.sign(0x345D3500),
            x -> Edges.of(x.end(7)),
            x -> x.splice(), x -> x.ring(0, 1), x -> x.ring(1, 0), x -> Edges.of(x.motor(1, 3, -2)), x -> x.head(0, 2, true),
            x -> Edges.of(x.wish(0, 4)), x -> x.mark(2, 1), x -> x.mark(4, 3), x -> x.stop(5), x -> x.weight(2, 150),
            x -> Edges.of(x.heads(3, 50, 7, 40)), x -> Edges.of(x.take(0, 7)), x -> Edges.of(x.gap(2)),
            x -> x.piece(0x12300000, 3), x -> x.piece(0x43000000, 2), x -> x.keep(0, 5), x -> x.keep(1, 7), x -> x.plan(),
            x -> x.sign(0x31322A33));

    /** Calls that only ask, or are refused. */
    private static final List<Edges.Call> ASKING = List.of(x -> x.hand(1), x -> x.inch(0, 2), x -> x.heard(-1, 77),
            x -> x.all(), x -> x.meets(9), x -> x.often(), x -> x.kept(), x -> x.out(300), x -> x.span(0), x -> x.pair(0),
            x -> x.mended(2),
            x -> x.known(0, 9), x -> x.edits(0, 1), x -> x.row(0), x -> x.of(1, 4), x -> x.way(1, 900), x -> x.count(5),
            x -> x.ring(2, 0), x -> x.piece(-1, 3), x -> x.fetch(9), x -> Edges.of(x.end(-1)), x -> x.tape(1),
            x -> x.keep(0, 4), x -> x.cut(0, 99), x -> x.set(0, 2, 0), x -> Edges.of(x.wish(3, 0)));

    /** The last call that an object is used for. */
    private static final List<Edges.Call> LAST = List.of(x -> x.sign(0x31313131), x -> Edges.of(x.end(2)), x -> x.splice(),
            x -> x.hand(2), x -> x.ring(1, 3), x -> x.over(1, 2, 0), x -> x.set(0, 1, 3), x -> x.head(0, 2, false),
            x -> Edges.of(x.motor(0, 9, 3)), x -> x.clear(), x -> x.count(5), x -> x.of(1, 2), x -> x.inch(1, 3),
            x -> x.way(1, 70), x -> x.heard(0, 70), x -> x.all(), x -> Edges.of(x.wish(1, 2)), x -> x.meets(1),
            x -> x.often(), x -> x.mark(3, 3), x -> x.kept(), x -> x.plan(), x -> x.make(), x -> x.cut(1, 2),
            x -> x.weight(2, 0), x -> Edges.of(x.heads(1, 100, 1, 0)), x -> x.stop(9), x -> x.out(8), x -> x.dies(),
            x -> x.tape(4), x -> Edges.of(x.take(3, 3)), x -> Edges.of(x.gap(0)), x -> x.wipe(), x -> x.span(1),
            x -> x.pair(1), x -> x.mended(0), x -> x.piece(0x99000000, 2), x -> x.burn(), x -> x.join(),
            x -> x.keep(1, 999), x -> x.known(1, 7), x -> x.fetch(1), x -> x.edits(0, 1), x -> x.row(1));

    private static String answer(TapeRings x, Edges.Call made) {
        try {
            return "" + made.on(x);
        } catch (NoSuchElementException e) {
            return "none such";
        }
    }

    @Says("An object is used for at most 512 calls after it has been made; what later calls answer is free.")
    static void promise1_anObjectIsUsedFor512Calls() {
        Edges.due("a call of each kind", LAST.size(), 44);
        for (int i = 0; i < LAST.size(); i++) {
            TapeRings x = new TapeRings();
            TapeRings y = new TapeRings();
            for (Edges.Call step : STEPS) {
                Edges.dueText("a step", answer(x, step), answer(y, step));
            }
            for (int calls = STEPS.size(); calls < 511; calls++) {
                answer(x, ASKING.get(calls % ASKING.size()));
            }
            Edges.dueText("call " + i + " as the 512th", answer(x, LAST.get(i)), answer(y, LAST.get(i)));
        }
    }

    @Says("As told;")
    static void promise1_onlyOfWayAndRowThrow() throws IllegalAccessException {
        for (Method m : TapeRings.class.getDeclaredMethods()) {
            if (Modifier.isPublic(m.getModifiers())) {
                for (Edges.Making making : List.of(Edges.NEW, Edges.FULL)) {
                    throwsAsTold(m, making);
                }
            }
        }
    }

    private static void throwsAsTold(Method m, Edges.Making making) throws IllegalAccessException {
        boolean may = List.of("of", "way", "row").contains(m.getName());
        List<Object[]> all = arguments(m.getParameterTypes());
        TapeRings x = Edges.madeBy(making);
        for (int i = 0; i < all.size(); i++) {
            if (i % 300 == 299) {
                x = Edges.madeBy(making);
            }
            String thrown = "nothing";
            try {
                m.invoke(x, all.get(i));
            } catch (InvocationTargetException e) {
                thrown = e.getCause().getClass().getSimpleName();
            }
            boolean right = thrown.equals("nothing") || (may && thrown.equals("NoSuchElementException"));
            Edges.dueText(m.getName() + List.of(all.get(i)) + " throws", right ? "as told" : thrown, "as told");
        }
    }

    private static List<Object[]> arguments(Class<?>[] types) {
        int[] many = {Integer.MIN_VALUE, -1000, -2, -1, 0, 1, 2, 3, 4, 8, 9, 16, 23, 24, 60, 100, 1022, 5000,
            Integer.MAX_VALUE};
        int[] few = {Integer.MIN_VALUE, -1, 0, 1, 4, 20, 24, 100, Integer.MAX_VALUE};
        List<Object[]> all = new ArrayList<>();
        all.add(new Object[0]);
        for (Class<?> type : types) {
            List<Object[]> longer = new ArrayList<>();
            for (Object[] ahead : all) {
                for (Object value : values(type, types.length < 3 ? many : few)) {
                    Object[] more = Arrays.copyOf(ahead, ahead.length + 1);
                    more[ahead.length] = value;
                    longer.add(more);
                }
            }
            all = longer;
        }
        return all;
    }

    private static List<Object> values(Class<?> type, int[] numbers) {
        if (type == boolean.class) {
            return List.of(true, false);
        }
        List<Object> values = new ArrayList<>();
        for (int n : numbers) {
            if (type == int.class) {
                values.add(n);
            } else {
                values.add((long) n);
                values.add((long) n << 32);
            }
        }
        return values;
    }

    // ---- what the interface says

    /** Each of these calls stands in the class behind this line, and no other such line is between. */
    private static void saysAhead(String line, String... calls) throws IOException {
        String part = "";
        List<String> found = new ArrayList<>();
        for (String l : Files.readAllLines(Path.of("src/main/java/TapeRings.java"))) {
            if (l.startsWith("    // ---- ")) {
                part = l.substring(12);
            }
            if (l.matches("    public \\w+ \\w+\\(.*") && part.equals(line)) {
                found.add(l.replaceAll("    public \\w+ (\\w+)\\(.*", "$1"));
            }
        }
        Edges.dueText("calls behind " + line, String.join(" ", found), String.join(" ", calls));
    }

    @Says("Ahead of the calls sign, end, splice, hand the interface says: ---- splices.")
    static void promise2_theInterfaceSaysSplices() throws IOException {
        saysAhead("splices", "sign", "end", "splice", "hand");
    }

    @Says("Ahead of the calls ring, over, set, head, motor, clear, count, of, inch the interface says: ---- rings.")
    static void promise6_theInterfaceSaysRings() throws IOException {
        saysAhead("rings", "ring", "over", "set", "head", "motor", "clear", "count", "of", "inch");
    }

    @Says("Ahead of the calls way, heard, all, wish, meets, often the interface says: ---- what is heard.")
    static void promise15_theInterfaceSaysWhatIsHeard() throws IOException {
        saysAhead("what is heard", "way", "heard", "all", "wish", "meets", "often");
    }

    @Says("Ahead of the calls mark, kept, plan, make, cut the interface says: ---- plans.")
    static void promise21_theInterfaceSaysPlans() throws IOException {
        saysAhead("plans", "mark", "kept", "plan", "make", "cut");
    }

    @Says("Ahead of the calls weight, heads, stop, out, dies the interface says: ---- echoes.")
    static void promise26_theInterfaceSaysEchoes() throws IOException {
        saysAhead("echoes", "weight", "heads", "stop", "out", "dies");
    }

    @Says("Ahead of the calls tape, take, gap, wipe, span, pair, mended the interface says: ---- old tapes.")
    static void promise31_theInterfaceSaysOldTapes() throws IOException {
        saysAhead("old tapes", "tape", "take", "gap", "wipe", "span", "pair", "mended");
    }

    @Says("Ahead of the calls piece, burn, join the interface says: ---- pieces.")
    static void promise38_theInterfaceSaysPieces() throws IOException {
        saysAhead("pieces", "piece", "burn", "join");
    }

    @Says("Ahead of the calls keep, known, fetch, edits, row the interface says: ---- versions.")
    static void promise41_theInterfaceSaysVersions() throws IOException {
        saysAhead("versions", "keep", "known", "fetch", "edits", "row");
    }

    // ---- what stays

    @Says("-101 OVER (the STRIP IN HAND stays).")
    static void promise4_theStripInHandStays() {
        String[] none = {"", "x", "1x", "(1", "1*", "1*5*5", "1*8*31", "12/3(345)", "123/3(45)", "1*8*3*2"};
        for (String text : none) {
            for (String hand : new String[] {"", "7", "[12]0", "1*8*3"}) {
                TapeRings x = new TapeRings();
                Check.splice(x, hand);
                String is = Check.inHand(x);
                Edges.due("splice() of '" + text + "' is below 0", Check.splice(x, text) < 0, true);
                Edges.dueText("the strip behind '" + hand + "', '" + text + "'", Check.inHand(x), is);
            }
        }
    }

    @Says("Refused: no such RING, INCH, what, it is empty.")
    static void promise7_refusedIfItIsEmpty() {
        for (int what = -1; what <= 2; what++) {
            int w = what;
            Edges.refused("over(0, 0, " + w + ") of a new one", Edges.NEW, x -> x.over(0, 0, w));
        }
        Edges.due("inches in hand", new TapeRings().count(7), 0);
    }

    static void promise14_askingChangesNothing() {
        Edges.asks("inch(0, 2)", Edges.FULL, x -> x.inch(0, 2));
    }

    // ---- what calls answer by what others answer

    @Says("WAY of a MOTOR to a TICK")
    static void promise15_theWayIsTheSumOfTheSpeeds() {
        Random random = new Random(11);
        for (int run = 0; run < 30; run++) {
            TapeRings x = new TapeRings();
            int[] told = new int[5001];
            int last = 0;
            for (int n = random.nextInt(13); n > 0; n--) {
                int tick = random.nextInt(random.nextBoolean() ? 30 : 5001);
                told[tick] = 20 + random.nextInt(19) - 9;
                x.motor(1, tick, told[tick] - 20);
            }
            long way = 0;
            int speed = 1;
            for (int tick = 0; tick <= 5000; tick++) {
                if (tick < 60 || random.nextInt(60) == 0 || tick == 5000) {
                    Edges.due("way(1, " + tick + ") of run " + run, x.way(1, tick), way);
                }
                speed = told[tick] == 0 ? speed : told[tick] - 20;
                way += speed;
                last = tick;
            }
            Edges.due("way(1, 6000) of run " + run, x.way(1, 6000), way + (5999L - last) * speed);
        }
    }

    private static TapeRings wishing(Random random, int[] lengths, int[] wishes) {
        TapeRings x = new TapeRings();
        for (int ring = 0; ring < lengths.length; ring++) {
            lengths[ring] = 1 + random.nextInt(6);
            StringBuilder text = new StringBuilder();
            for (int i = 0; i < lengths[ring]; i++) {
                text.append(random.nextInt(3));
            }
            Check.ring(x, text.toString(), random.nextInt(2), random.nextInt(lengths[ring]));
            wishes[ring] = random.nextInt(4) == 0 ? 0 : 2 + 2 * random.nextInt(2);
            x.wish(ring, wishes[ring]);
        }
        for (int n = random.nextInt(4); n > 0; n--) {
            x.motor(random.nextInt(2), random.nextInt(7), random.nextInt(19) - 9);
        }
        return x;
    }

    @Says("ALL.")
    static void promise17_allIsTheLeastOfTheRounds() {
        Random random = new Random(12);
        for (int run = 0; run < 200; run++) {
            int[] lengths = new int[random.nextInt(5)];
            TapeRings x = wishing(random, lengths, new int[lengths.length]);
            int ticks = 1;
            for (int ring = 0; ring < lengths.length; ring++) {
                if (ticks % x.of(ring, 4) != 0) {
                    ticks++;
                    ring = -1;
                }
            }
            Edges.due("all() of run " + run, x.all(), ticks);
        }
    }

    private static boolean meetsAt(TapeRings x, int[] wishes, long tick) {
        for (int ring = 0; ring < wishes.length; ring++) {
            if ((x.heard(ring, tick) & wishes[ring]) != wishes[ring]) {
                return false;
            }
        }
        return true;
    }

    /** Of TICKS up to 6 speeds may be told, and two RINGS of up to 6 INCHES come round in 30 TICKS at most. */
    @Says("The first TICK from one on")
    static void promise19_theFirstTickByWhatIsHeard() {
        Random random = new Random(13);
        for (int run = 0; run < 300; run++) {
            int[] wishes = new int[1 + random.nextInt(2)];
            TapeRings x = wishing(random, new int[wishes.length], wishes);
            for (int from = 0; from < 9; from += 4) {
                long due = -1;
                for (int tick = from; tick < from + 40 && due == -1; tick++) {
                    due = meetsAt(x, wishes, tick) ? tick : -1;
                }
                Edges.due("meets(" + from + ") of run " + run, x.meets(from), due);
            }
        }
    }

    @Says("At how many of ALL TICKS, from the greatest STEADY of both MOTORS on, it MEETS.")
    static void promise20_howOftenByWhatIsHeard() {
        Random random = new Random(14);
        for (int run = 0; run < 300; run++) {
            int[] wishes = new int[1 + random.nextInt(3)];
            TapeRings x = wishing(random, new int[wishes.length], wishes);
            int often = 0;
            long all = x.all();
            for (long tick = 6; tick < 6 + all; tick++) {
                often += meetsAt(x, wishes, tick) ? 1 : 0;
            }
            Edges.due("often() of run " + run, x.often(), often);
        }
    }

    @Says("MARKS that are TRUE, as bits.")
    static void promise22_keptByWhatIsHeard() {
        Random random = new Random(15);
        for (int run = 0; run < 100; run++) {
            int[] lengths = new int[random.nextInt(4)];
            TapeRings x = wishing(random, lengths, new int[lengths.length]);
            int due = 0;
            for (int mark = 0; mark < 6; mark++) {
                int tick = random.nextInt(random.nextBoolean() ? 9 : 100001);
                int sound = 1 + random.nextInt(3);
                x.mark(tick, sound);
                due |= (x.heard(-1, tick) >> sound & 1) << mark;
            }
            Edges.due("kept() of run " + run, x.kept(), due);
        }
    }

    @Says("The LEAST PLAN is done: RINGS are CUT, have their new START: its sum.")
    static void promise24_makeDoesWhatPlanTells() {
        Random random = new Random(16);
        for (int run = 0; run < 100; run++) {
            int[] lengths = new int[1 + random.nextInt(3)];
            int seed = random.nextInt();
            int[][] marks = new int[1 + random.nextInt(4)][];
            for (int m = 0; m < marks.length; m++) {
                marks[m] = new int[] {random.nextInt(20), 1 + random.nextInt(2)};
            }
            Edges.Making making = x -> {
                for (int[] mark : marks) {
                    x.mark(mark[0], mark[1]);
                }
            };
            TapeRings x = wishing(new Random(seed), lengths, new int[lengths.length]);
            TapeRings y = wishing(new Random(seed), lengths, new int[lengths.length]);
            making.on(x);
            making.on(y);
            int sum = y.plan();
            Edges.due("make() of run " + run, x.make(), sum);
            for (int ring = 0; 2 * ring < y.count(5); ring++) {
                y.cut(ring, y.row(2 * ring));
                y.set(ring, 1, y.row(2 * ring + 1));
            }
            y.join();
            Edges.dueText("what stands then", Seen.of(x, 0), Seen.of(y, 0));
        }
    }

    @Says("The OLD TAPE is what is HEARD in all at n (0 .. 60) TICKS from one (0 .. 100000) on: true.")
    static void promise32_theTapeIsWhatIsHeard() {
        Random random = new Random(17);
        for (int run = 0; run < 60; run++) {
            int[] lengths = new int[1 + random.nextInt(2)];
            TapeRings x = wishing(random, lengths, new int[lengths.length]);
            int tick = random.nextInt(random.nextBoolean() ? 9 : 100001);
            int n = random.nextInt(61);
            Edges.due("take()", x.take(tick, n), true);
            Edges.due("places", x.count(2), n);
            if (x.pair(0) != -1) {
                for (int place = 0; place < n; place++) {
                    Edges.due("mended(" + place + ") of run " + run, x.mended(place), x.heard(-1, tick + place));
                }
            }
        }
    }

    @Says("the greatest STRIPS there can be, both together, as bits; of a GAP too.")
    static void promise37_theGreatestOfAllStrips() {
        Random random = new Random(18);
        for (int run = 0; run < 200; run++) {
            int[] places = new int[1 + random.nextInt(9)];
            int one = random.nextInt(1 << 4);
            int other = random.nextInt(1 << 6);
            TapeRings x = new TapeRings();
            for (int t = 0; t < places.length; t++) {
                int bits = 2 * (one >> 2 * (t % 2) & 3 | other >> 2 * (t % 3) & 3);
                places[t] = random.nextInt(4) == 0 ? -1 : bits;
                x.tape(places[t]);
            }
            int pair = x.pair(0);
            if (pair != -1 && pair / 100 + pair % 100 <= 6) {
                int[] due = greatest(places, pair / 100, pair % 100);
                for (int t = 0; t < places.length; t++) {
                    Edges.due("mended(" + t + ") of run " + run, x.mended(t) & 6, due[t]);
                }
            }
        }
    }

    /** Of SOUNDS 1 and 2 all STRIPS are tried: those that fit, all together, are the greatest. */
    private static int[] greatest(int[] places, int p, int q) {
        int greatest = 0;
        for (int both = 0; both < 1 << 2 * (p + q); both++) {
            boolean fits = true;
            for (int t = 0; t < places.length && fits; t++) {
                fits = places[t] == -1 || 2 * (both >> 2 * (t % p) & 3 | both >> 2 * (p + t % q) & 3) == places[t];
            }
            greatest |= fits ? both : 0;
        }
        int[] due = new int[places.length];
        for (int t = 0; t < places.length; t++) {
            due[t] = 2 * (greatest >> 2 * (t % p) & 3 | greatest >> 2 * (p + t % q) & 3);
        }
        return due;
    }

    @Says("The latest VERSION of a RING of a DAY not above one;")
    static void promise42_theLatestOfAll() {
        Random random = new Random(19);
        for (int run = 0; run < 60; run++) {
            TapeRings x = ringOf("1", 0);
            x.ring(0, 0);
            x.ring(0, 0);
            int[] rings = new int[random.nextInt(17)];
            int[] days = new int[rings.length];
            for (int v = 0, day = random.nextInt(4); v < rings.length; v++, day += random.nextInt(3)) {
                rings[v] = random.nextInt(3);
                days[v] = day;
                Edges.due("keep() " + v, x.keep(rings[v], day), v);
            }
            for (int ring = 0; ring < 3; ring++) {
                for (int day = 0; day < 40; day++) {
                    int due = -1;
                    for (int v = 0; v < rings.length; v++) {
                        due = rings[v] == ring && days[v] <= day ? v : due;
                    }
                    Edges.due("known(" + ring + ", " + day + ") of run " + run, x.known(ring, day), due);
                }
            }
        }
    }
}
