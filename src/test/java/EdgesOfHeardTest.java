/** Promises 15 to 20 at their edges: what is HEARD, and when the WISH MEETS. */
public final class EdgesOfHeardTest {
    private static final long LAST = 1L << 60;

    public static void main(String[] args) {
        Edges.run(EdgesOfHeardTest.class);
    }

    private static TapeRings ringOf(String text, int start) {
        TapeRings x = new TapeRings();
        Check.ring(x, text, 0, start);
        return x;
    }

    // ---- promise 15

    @Says("to a TICK (0 .. 1000000000).")
    static void promise15_ticksAre0To1000000000() {
        Edges.rangeThrown("way's tick", 0, 1000000000, Edges.FULL, (x, v) -> x.way(0, v));
        TapeRings x = new TapeRings();
        Edges.due("way(0, 0)", x.way(0, 0), 0);
        Edges.due("way(0, 1)", x.way(0, 1), 1);
        Edges.due("way(0, 999999999)", x.way(0, 999999999), 999999999);
        Edges.due("way(0, 1000000000)", x.way(0, 1000000000), 1000000000);
    }

    @Says("NoSuchElementException: none such.")
    static void promise15_motorsAre0And1() {
        Edges.rangeThrown("way's motor", 0, 1, Edges.FULL, (x, v) -> x.way(v, 5));
        Edges.rangeThrown("way's motor at 0", 0, 1, Edges.NEW, (x, v) -> x.way(v, 0));
        Edges.noSuch("neither", Edges.NEW, x -> x.way(2, -1));
    }

    @Says("WAY of a MOTOR to a TICK (0 .. 1000000000).")
    static void promise15_waysBeyondAnInt() {
        TapeRings x = new TapeRings();
        x.motor(0, 0, 9);
        Edges.due("at 9", x.way(0, 1000000000), 9000000000L);
        x.motor(0, 0, -9);
        Edges.due("at -9", x.way(0, 1000000000), -9000000000L);
        x.motor(0, 5000, 9);
        Edges.due("at -9 and 9", x.way(0, 1000000000), -45000L + 9L * 999995000);
        Edges.due("at the last tick told", x.way(0, 5000), -45000);
        Edges.due("one behind it", x.way(0, 5001), -44991);
    }

    @Says("WAY of a MOTOR to a TICK")
    static void promise15_aroundEachTickTold() {
        TapeRings x = new TapeRings();
        x.motor(1, 10, 3);
        x.motor(1, 20, 0);
        x.motor(1, 30, -2);
        int[] ticks = {9, 10, 11, 19, 20, 21, 29, 30, 31};
        int[] due = {9, 10, 13, 37, 40, 40, 40, 40, 38};
        for (int i = 0; i < ticks.length; i++) {
            Edges.due("way(1, " + ticks[i] + ")", x.way(1, ticks[i]), due[i]);
        }
    }

    static void promise15_askingChangesNothing() {
        Edges.asks("way(0, 70)", Edges.FULL, x -> x.way(0, 70));
    }

    // ---- promise 16

    @Says("at a TICK (0 or more).")
    static void promise16_ticksAre0OrMore() {
        for (long tick : new long[] {-1, -2, Integer.MIN_VALUE, Long.MIN_VALUE}) {
            for (int ring : new int[] {-1, 0, 1}) {
                Edges.refused("heard(" + ring + ", " + tick + ")", Edges.FULL, x -> x.heard(ring, tick));
            }
            Edges.refused("heard(NONE, " + tick + ") without rings", Edges.NEW, x -> x.heard(-1, tick));
        }
        TapeRings x = ringOf("123", 0);
        Edges.due("heard(0, 0)", x.heard(0, 0), 2);
        Edges.due("heard(0, 1)", x.heard(0, 1), 4);
        Edges.due("heard(-1, 0)", x.heard(-1, 0), 2);
    }

    @Says("at a TICK (0 or more).")
    static void promise16_veryLateTicks() {
        for (int speed = -9; speed <= 9; speed++) {
            TapeRings x = ringOf("123456789", 3);
            x.motor(0, 7, speed);
            for (long tick : new long[] {LAST, Long.MAX_VALUE - 1, Long.MAX_VALUE}) {
                long inch = (3 + 7 + Math.floorMod(tick - 7, 9L) * speed) % 9;
                Edges.due("heard(0, " + tick + ") at " + speed, x.heard(0, tick), 2L << (inch + 9) % 9);
            }
        }
    }

    @Says({"(NONE: in all)", "NONE: none such."})
    static void promise16_noneSuchRings() {
        Edges.range("heard's ring", -1, 1, Edges.FULL, (x, v) -> x.heard(v, 4));
        Edges.range("heard's ring without rings", -1, -1, Edges.NEW, (x, v) -> x.heard(v, 4));
        Edges.refused("heard(0, 0) of what is cleared", x -> {
            Edges.FULL.on(x);
            x.clear();
        }, x -> x.heard(0, 0));
    }

    @Says("(NONE: in all)")
    static void promise16_inAllWithoutRingsNothing() {
        TapeRings x = new TapeRings();
        Edges.due("heard(NONE, 0)", x.heard(TapeRings.NONE, 0), 0);
        Edges.due("heard(NONE, 2^63-1)", x.heard(-1, Long.MAX_VALUE), 0);
    }

    @Says("HEARD of a RING")
    static void promise16_aroundATickTold() {
        TapeRings x = ringOf("12345", 0);
        x.motor(0, 3, -1);
        int[] due = {2, 4, 8, 16, 8, 4, 2, 32, 16};
        for (int t = 0; t < due.length; t++) {
            Edges.due("heard(0, " + t + ")", x.heard(0, t), due[t]);
        }
        x.motor(0, 5000, 0);
        int late = x.heard(0, 5000);
        Edges.due("heard(0, 4999)", x.heard(0, 4999), late == 32 ? 2 : late << 1);
        Edges.due("heard(0, 5001)", x.heard(0, 5001), late);
    }

    static void promise16_askingChangesNothing() {
        Edges.asks("heard(0, 9)", Edges.FULL, x -> x.heard(0, 9));
        Edges.asks("heard(NONE, 9)", Edges.FULL, x -> x.heard(-1, 9));
    }

    // ---- promise 17

    static void promise17_oneWithoutRings() {
        Edges.due("all()", new TapeRings().all(), 1);
        TapeRings x = new TapeRings();
        x.motor(0, 5, 7);
        Edges.due("all() of motors alone", x.all(), 1);
    }

    @Says("ALL.")
    static void promise17_theGreatestOfAll() {
        TapeRings x = new TapeRings();
        for (int length : new int[] {19, 21, 22, 23}) {
            Check.ring(x, "0".repeat(length), 0, 0);
        }
        Edges.due("all()", x.all(), 201894);
        x.cut(1, 1);
        Edges.due("all() of 19, 20, 22, 23", x.all(), 19 * 20 * 11 * 23);
    }

    @Says("ALL.")
    static void promise17_ringsThatStand() {
        TapeRings x = ringOf("12345", 0);
        Check.ring(x, "123", 1, 0);
        x.motor(0, 9, 0);
        Edges.due("one stands", x.all(), 3);
        x.motor(1, 0, 0);
        Edges.due("both stand", x.all(), 1);
        x.motor(1, 0, 3);
        Edges.due("one goes round in 1", x.all(), 1);
    }

    static void promise17_askingChangesNothing() {
        Edges.asks("all()", Edges.FULL, x -> x.all());
    }

    // ---- promise 18

    @Says("The WISH of a RING becomes SOUNDS as bits: true.")
    static void promise18_soundsAsBits() {
        int[] taken = {0, 2, 4, 256, 512, 514, 1020, 1022};
        int[] not = {1, 3, 513, 1023, 1024, 1026, 2046, 2048, -1, -2, Integer.MIN_VALUE, Integer.MAX_VALUE};
        TapeRings x = ringOf("12", 0);
        for (int bits : taken) {
            Edges.due("wish(0, " + bits + ")", x.wish(0, bits), true);
            Edges.due("the wish then", x.of(0, 5), bits);
        }
        for (int bits : not) {
            Edges.refusedFalse("wish(1, " + bits + ")", Edges.FULL, y -> Edges.of(y.wish(1, bits)));
        }
    }

    @Says("Refused: others.")
    static void promise18_othersAreRefused() {
        Edges.range("wish's ring", 0, 1, Edges.FULL, (x, v) -> Edges.of(x.wish(v, 8)), 0);
        Edges.refusedFalse("wish(0, 0) without rings", Edges.NEW, x -> Edges.of(x.wish(0, 0)));
        Edges.refusedFalse("wish(-1, 0)", Edges.FULL, x -> Edges.of(x.wish(-1, 0)));
    }

    // ---- promise 19

    @Says({"(0 .. 2 to the power of 60)", "another TICK."})
    static void promise19_from0To2ToThePowerOf60() {
        TapeRings x = ringOf("1234", 0);
        x.wish(0, 8);
        Edges.due("meets(0)", x.meets(0), 2);
        Edges.due("meets(1)", x.meets(1), 2);
        Edges.due("meets(2^60-1)", x.meets(LAST - 1), LAST + 2);
        Edges.due("meets(2^60)", x.meets(LAST), LAST + 2);
        x.wish(0, 2);
        Edges.due("meets(2^60) at once", x.meets(LAST), LAST);
        Edges.due("meets(2^60-1)", x.meets(LAST - 1), LAST);
        for (long from : new long[] {-1, -2, Long.MIN_VALUE, LAST + 1, LAST + 2, Long.MAX_VALUE}) {
            Edges.refused("meets(" + from + ")", Edges.FULL, y -> y.meets(from));
            Edges.refused("meets(" + from + ") without rings", Edges.NEW, y -> y.meets(from));
        }
    }

    @Says("The first TICK from one on")
    static void promise19_theFirstFromOneOn() {
        TapeRings x = ringOf("0100", 0);
        x.wish(0, 2);
        long[] due = {1, 1, 5, 5, 5, 5, 9};
        for (int from = 0; from < due.length; from++) {
            Edges.due("meets(" + from + ")", x.meets(from), due[from]);
        }
    }

    @Says("NONE: none,")
    static void promise19_noneIfThereIsNone() {
        Edges.refused("a sound that is nowhere", x -> {
            Edges.FULL.on(x);
            x.wish(0, 512);
        }, x -> x.meets(0));
        TapeRings x = ringOf("10", 0);
        Check.ring(x, "01", 0, 0);
        x.wish(0, 2);
        x.wish(1, 2);
        Edges.due("never together", x.meets(0), -1);
        x.set(1, 1, 1);
        Edges.due("always together", x.meets(0), 0);
    }

    @Says("at which the WISH MEETS.")
    static void promise19_aroundSteady() {
        TapeRings x = ringOf("10000", 0);
        x.wish(0, 2);
        x.motor(0, 10, 0);
        Edges.due("from 5 on", x.meets(5), 5);
        Edges.due("from 6 on", x.meets(6), 10);
        Edges.due("from 10 on, where it stands", x.meets(10), 10);
        Edges.due("from 11 on", x.meets(11), 11);
        x.motor(0, 11, 0);
        x.motor(0, 10, 1);
        Edges.due("from 10 on, ahead of where it stands", x.meets(10), 10);
        Edges.due("from 11 on, where it stands elsewhere", x.meets(11), -1);
        x.motor(1, 5000, 9);
        Edges.due("from 10 on, the other motor being steady late", x.meets(10), 10);
        Edges.due("from 11 on, the same", x.meets(11), -1);
    }

    @Says("at which the WISH MEETS.")
    static void promise19_roundsAreCountedFromSteadyOn() {
        for (int steady = 0; steady < 12; steady++) {
            TapeRings x = ringOf("100", 0);
            Check.ring(x, "0200", 1, 0);
            x.motor(0, steady, 1);
            x.motor(1, steady / 2, 1);
            x.wish(0, 2);
            Edges.due("meets(1) of one, steady at " + steady, x.meets(1), 3);
            Edges.due("meets(13) of one, steady at " + steady, x.meets(13), 15);
            x.wish(1, 4);
            Edges.due("meets(0) of both, steady at " + steady, x.meets(0), 9);
            Edges.due("meets(10) of both, steady at " + steady, x.meets(10), 21);
            Edges.due("often() of both, steady at " + steady, x.often(), 1);
        }
    }

    @Says("at which the WISH MEETS.")
    static void promise19_fourRingsAheadOfSteady() {
        TapeRings x = new TapeRings();
        for (int ring = 0; ring < 4; ring++) {
            Check.ring(x, "1" + "0".repeat(ring + 1), ring & 1, 0);
            x.wish(ring, 2);
        }
        x.motor(0, 4000, 1);
        Edges.due("meets(0)", x.meets(0), 0);
        Edges.due("meets(1) of 2, 3, 4, 5", x.meets(1), 60);
        Edges.due("meets(3901) around steady", x.meets(3901), 3960);
        Edges.due("meets(3961) around steady", x.meets(3961), 4020);
    }

    static void promise19_ringsThatAreClearedHaveNoWish() {
        TapeRings x = new TapeRings();
        Check.splice(x, "12");
        x.ring(0, 0);
        x.ring(0, 0);
        x.wish(0, 512);
        x.wish(1, 512);
        Edges.due("meets(0) ahead of clear()", x.meets(0), -1);
        x.clear();
        x.motor(0, 50, 0);
        Edges.due("meets(0) without rings", x.meets(0), 0);
        Edges.due("often() without rings", x.often(), 1);
        x.ring(0, 0);
        x.wish(0, 4);
        Edges.due("meets(0) of a new one", x.meets(0), 1);
        Edges.due("meets(49) of a new one", x.meets(49), 49);
    }

    @Says("The first TICK from one on")
    static void promise19_theLastTickAheadOfTheLatestSteady() {
        TapeRings x = ringOf("1" + "0".repeat(23), 0);
        x.motor(0, 0, 0);
        x.motor(0, 4976, 1);
        x.motor(0, 4999, 2);
        x.motor(0, 5000, 0);
        x.wish(0, 2);
        Edges.due("way to 5000", x.way(0, 5000), 25);
        Edges.due("from 4976 on", x.meets(4976), 4976);
        Edges.due("from 4977 on", x.meets(4977), -1);
        x.motor(0, 4999, 1);
        Edges.due("from 4977 on at way 24", x.meets(4977), 5000);
    }

    @Says("The first TICK from one on")
    static void promise19_aWholeRoundOfAllIsLookedAt() {
        TapeRings x = new TapeRings();
        int[] lengths = {19, 21, 22, 23};
        for (int i = 0; i < 4; i++) {
            Check.ring(x, "0".repeat(lengths[i] - 1) + "1", 0, 0);
            x.wish(i, 2);
        }
        Edges.due("the last of all", x.meets(0), 201893);
        Edges.due("from it on", x.meets(201893), 201893);
        Edges.due("one behind it", x.meets(201894), 2 * 201894 - 1);
        long turns = LAST / 201894;
        Edges.due("from 2^60 on", x.meets(LAST), (turns + 1) * 201894 - 1);
    }

    static void promise19_withoutRingsOrWishesAtOnce() {
        TapeRings x = new TapeRings();
        Edges.due("without rings", x.meets(0), 0);
        Edges.due("without rings at 2^60", x.meets(LAST), LAST);
        Check.ring(x, "000", 0, 0);
        Edges.due("without wishes", x.meets(77), 77);
    }

    static void promise19_askingChangesNothing() {
        Edges.asks("meets(3)", Edges.FULL, x -> x.meets(3));
    }

    // ---- promise 20

    @Says({"At how many of ALL TICKS,", "it MEETS."})
    static void promise20_from0ToAllTicks() {
        TapeRings x = ringOf("1002", 0);
        Edges.due("without wishes", x.often(), 4);
        x.wish(0, 2);
        Edges.due("one", x.often(), 1);
        x.wish(0, 6);
        Edges.due("none", x.often(), 0);
        Check.ring(x, "111000", 0, 0);
        x.wish(0, 0);
        x.wish(1, 2);
        Edges.due("half of twelve", x.often(), 6);
        x.wish(0, 2);
        Edges.due("half of three", x.often(), 2);
    }

    static void promise20_oneWithoutRings() {
        TapeRings x = new TapeRings();
        Edges.due("without rings", x.often(), 1);
        x.motor(0, 9, 4);
        Edges.due("without rings, with motors", x.often(), 1);
    }

    @Says("from the greatest STEADY of both MOTORS on,")
    static void promise20_fromTheGreatestSteadyOfBothOn() {
        TapeRings x = ringOf("1000", 0);
        x.wish(0, 2);
        x.motor(0, 4, 0);
        Edges.due("stands from 4 on", x.often(), 1);
        x.motor(0, 3, 0);
        Edges.due("stands from 3 on", x.often(), 0);
        x.clear();
        Check.ring(x, "1000", 0, 0);
        Check.ring(x, "12", 1, 0);
        x.wish(0, 2);
        x.wish(1, 2);
        x.motor(1, 5, 0);
        Edges.due("the other stands at its other inch", x.often(), 0);
        x.motor(1, 6, 0);
        Edges.due("stands still there", x.often(), 0);
        x.motor(1, 5, 1);
        Edges.due("stands at its first inch", x.often(), 1);
        x.clear();
        Check.ring(x, "12", 0, 0);
        x.wish(0, 2);
        x.motor(0, 5, 2);
        x.motor(1, 6, 1);
        Edges.due("going by 2 from 5 on", x.often(), 0);
        x.motor(0, 5, 1);
        x.motor(0, 6, 2);
        Edges.due("going by 2 from 6 on", x.often(), 1);
    }

    @Says("At how many of ALL TICKS,")
    static void promise20_theMostThereCanBe() {
        TapeRings x = new TapeRings();
        for (int length : new int[] {19, 21, 22, 23}) {
            Check.ring(x, "1".repeat(length), 0, 0);
        }
        for (int ring = 0; ring < 4; ring++) {
            x.wish(ring, 2);
        }
        Edges.due("all of all", x.often(), 201894);
        Check.splice(x, "2");
        x.over(0, 0, 0);
        Edges.due("one of 19 less", x.often(), 201894 / 19 * 18);
    }

    static void promise20_askingChangesNothing() {
        Edges.asks("often()", Edges.FULL, x -> x.often());
    }
}
