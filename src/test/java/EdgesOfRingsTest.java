/** Promises 6 to 14 at their edges: RINGS and MOTORS. */
public final class EdgesOfRingsTest {
    public static void main(String[] args) {
        Edges.run(EdgesOfRingsTest.class);
    }

    private static TapeRings ringOf(String text, int start) {
        TapeRings x = new TapeRings();
        Check.ring(x, text, 0, start);
        return x;
    }

    private static String ringSeen(TapeRings x, int ring) {
        StringBuilder told = new StringBuilder();
        for (int i = 0; i < x.of(ring, 0); i++) {
            told.append(i == 0 ? "" : " ").append(x.inch(ring, i));
        }
        return told.toString();
    }

    // ---- promise 6

    @Says("its number.")
    static void promise6_itsNumberIsThatOfTheRingsAhead() {
        TapeRings x = new TapeRings();
        Check.splice(x, "12");
        for (int n = 0; n < 4; n++) {
            Edges.due("ring " + n, x.ring(0, 1), n);
            Edges.due("rings then", x.count(0), n + 1);
        }
        Edges.due("ring(0, 1)", x.ring(0, 1), -1);
        Edges.due("rings then", x.count(0), 4);
        x.clear();
        Edges.due("behind clear()", x.ring(0, 1), 0);
    }

    @Says("Refused: it is empty,")
    static void promise6_refusedIfTheHandIsEmpty() {
        for (int start : new int[] {Integer.MIN_VALUE, -1, 0, 1, Integer.MAX_VALUE}) {
            Edges.refused("ring(0, " + start + ")", Edges.NEW, x -> x.ring(0, start));
            Edges.refused("ring(1, " + start + ")", Edges.NEW, x -> x.ring(1, start));
        }
    }

    @Says("no such MOTOR,")
    static void promise6_refusedIfThereIsNoSuchMotor() {
        Edges.range("ring's motor", 0, 1, Edges.FULL, (x, v) -> x.ring(v, 1));
    }

    @Says("no such MOTOR, START;")
    static void promise6_refusedIfThereIsNoSuchStart() {
        Edges.range("ring's start", 0, 3, Edges.FULL, (x, v) -> x.ring(1, v));
        Edges.range("start of one inch", 0, 0, y -> Check.splice(y, "5"), (x, v) -> x.ring(0, v));
        Edges.range("start of 24", 0, 23, y -> Check.splice(y, "5*8*3"), (x, v) -> x.ring(0, v));
    }

    @Says("4.")
    static void promise6_refusedIfThereAreFour() {
        Edges.range("the fourth", 0, 3, EdgesOfRingsTest::threeRings, (x, v) -> x.ring(0, v));
        Edges.refused("the fifth", x -> {
            threeRings(x);
            x.ring(0, 0);
        }, x -> x.ring(0, 0));
    }

    private static void threeRings(TapeRings x) {
        Edges.FULL.on(x);
        x.ring(1, 3);
    }

    @Says("A RING of the STRIP IN HAND:")
    static void promise6_aNewRingIsAsTold() {
        TapeRings x = Edges.madeBy(Edges.FULL);
        x.ring(1, 3);
        int[] due = {4, 1, 3, 1, 4, 0};
        for (int what = 0; what < due.length; what++) {
            Edges.due("of(2, " + what + ")", x.of(2, what), due[what]);
        }
        Edges.dueText("its inches", ringSeen(x, 2), "514 4 256 0");
        x.over(2, 0, 0);
        Check.splice(x, "7");
        x.over(2, 0, 0);
        Edges.dueText("a changed ring", ringSeen(x, 2), "128 4 256 0");
        Edges.due("the strip in hand is its own", x.hand(0), 128);
        Edges.due("the ring ahead stays", x.inch(1, 0), 32);
    }

    // ---- promise 7

    @Says("Refused: no such RING,")
    static void promise7_refusedIfThereIsNoSuchRing() {
        Edges.range("over's ring", 0, 1, Edges.FULL, (x, v) -> x.over(v, 0, 1));
    }

    @Says("no such RING, INCH,")
    static void promise7_refusedIfThereIsNoSuchInch() {
        Edges.range("over's inch", 0, 4, Edges.FULL, (x, v) -> x.over(0, v, 0));
        Edges.range("over's inch of the other ring", 0, 4, Edges.FULL, (x, v) -> x.over(1, v, 1));
        Edges.range("over's inch of a ring that is cut", 0, 1, x -> {
            Edges.FULL.on(x);
            x.cut(0, 3);
        }, (x, v) -> x.over(0, v, 1));
    }

    @Says("INCH, what,")
    static void promise7_refusedIfThereIsNoSuchWhat() {
        Edges.range("over's what", 0, 1, Edges.FULL, (x, v) -> x.over(0, 1, v));
    }

    @Says("what 0: in place of what is there, 1: with it: how many INCHES became others.")
    static void promise7_inPlaceOrWithIt() {
        TapeRings x = ringOf("1[23]4", 0);
        Check.splice(x, "22");
        Edges.due("with it", x.over(0, 0, 1), 1);
        Edges.dueText("then", ringSeen(x, 0), "6 12 16");
        Edges.due("in place", x.over(0, 1, 0), 2);
        Edges.dueText("then", ringSeen(x, 0), "6 4 4");
        Edges.due("in place of the same", x.over(0, 1, 0), 0);
        Edges.due("with the same", x.over(0, 0, 1), 0);
        Check.splice(x, "00");
        Edges.due("nothing with it", x.over(0, 0, 1), 0);
        Edges.due("nothing in place", x.over(0, 0, 0), 2);
        Edges.due("nothing in place of nothing", x.over(0, 0, 0), 0);
        Edges.dueText("then", ringSeen(x, 0), "0 0 4");
    }

    @Says("The STRIP IN HAND is laid over a RING from an INCH on, as far as it goes:")
    static void promise7_asFarAsItGoes() {
        TapeRings x = ringOf("11111", 0);
        Check.splice(x, "22");
        Edges.due("one short of the end", x.over(0, 2, 0), 2);
        Edges.dueText("then", ringSeen(x, 0), "2 2 4 4 2");
        Edges.due("to the end", x.over(0, 3, 0), 1);
        Edges.dueText("then", ringSeen(x, 0), "2 2 4 4 4");
        Check.splice(x, "33");
        Edges.due("beyond the end", x.over(0, 4, 0), 1);
        Edges.dueText("then", ringSeen(x, 0), "2 2 4 4 8");
        Check.splice(x, "1234567");
        Edges.due("longer than the ring", x.over(0, 0, 0), 4);
        Edges.dueText("then", ringSeen(x, 0), "2 4 8 16 32");
        Edges.due("its length stays", x.of(0, 0), 5);
    }

    static void promise7_whatIsHeardFollows() {
        TapeRings x = ringOf("123", 0);
        Check.splice(x, "9");
        x.over(0, 1, 1);
        Edges.due("heard(0, 1)", x.heard(0, 1), 516);
        x.over(0, 1, 0);
        Edges.due("heard(0, 1)", x.heard(0, 1), 512);
        Edges.due("heard(0, 0)", x.heard(0, 0), 2);
    }

    // ---- promise 8

    @Says("MOTOR (what 0), START (1) of a RING becomes v: what it was.")
    static void promise8_motorAndStartBecomeV() {
        TapeRings x = ringOf("1234", 2);
        Edges.due("motor to 1", x.set(0, 0, 1), 0);
        Edges.due("motor to 1 again", x.set(0, 0, 1), 1);
        Edges.due("motor to 0", x.set(0, 0, 0), 1);
        Edges.due("its motor", x.of(0, 1), 0);
        Edges.due("start to 0", x.set(0, 1, 0), 2);
        Edges.due("start to 3", x.set(0, 1, 3), 0);
        Edges.due("start to 3 again", x.set(0, 1, 3), 3);
        Edges.due("its start", x.of(0, 2), 3);
    }

    @Says("Refused: others.")
    static void promise8_othersAreRefused() {
        Edges.range("set's ring", 0, 1, Edges.FULL, (x, v) -> x.set(v, 0, 0));
        Edges.range("set's what", 0, 1, Edges.FULL, (x, v) -> x.set(0, v, 1));
        Edges.range("set's motor", 0, 1, Edges.FULL, (x, v) -> x.set(1, 0, v));
        Edges.range("set's start", 0, 4, Edges.FULL, (x, v) -> x.set(1, 1, v));
        Edges.range("set's start of what is cut", 0, 0, x -> {
            Edges.FULL.on(x);
            x.cut(1, 4);
        }, (x, v) -> x.set(1, 1, v));
    }

    // ---- promise 9

    @Says("A RING has a HEAD at an offset, or not: how many HEADS.")
    static void promise9_howManyHeads() {
        TapeRings x = ringOf("12", 0);
        Edges.due("one that is", x.head(0, 0, true), 1);
        Edges.due("one more", x.head(0, 2, true), 2);
        Edges.due("the same again", x.head(0, 2, true), 2);
        for (int offset = 0; offset < 24; offset++) {
            x.head(0, offset, true);
        }
        Edges.due("all", x.of(0, 3), (1 << 24) - 1);
        Edges.due("one of all", x.head(0, 5, true), 24);
        Edges.due("all but one", x.head(0, 5, false), 23);
        Edges.due("the same again", x.head(0, 5, false), 23);
    }

    @Says("Refused: no such RING, offset;")
    static void promise9_refusedIfThereIsNoSuchRingOrOffset() {
        Edges.range("head's ring", 0, 1, Edges.FULL, (x, v) -> x.head(v, 7, true));
        Edges.range("head's offset", 0, 23, Edges.FULL, (x, v) -> x.head(0, v, true));
        Edges.range("offset of none", 0, 23, Edges.FULL, (x, v) -> x.head(1, v, false));
    }

    @Says("the last one.")
    static void promise9_theLastOneIsRefused() {
        Edges.refused("the last one at 0", x -> Check.ring(x, "12", 0, 0), x -> x.head(0, 0, false));
        Edges.refused("the last one at 23", x -> {
            Check.ring(x, "12", 0, 0);
            x.head(0, 23, true);
            x.head(0, 0, false);
        }, x -> x.head(0, 23, false));
        TapeRings x = ringOf("12", 0);
        x.head(0, 1, true);
        Edges.due("the last but one", x.head(0, 0, false), 1);
        Edges.due("the last one", x.head(0, 1, false), -1);
        Edges.due("heads then", x.of(0, 3), 2);
        Edges.due("heard then", x.heard(0, 0), 4);
    }

    // ---- promise 10

    private static void told(TapeRings x, int motor, int ticks) {
        for (int i = 0; i < ticks; i++) {
            x.motor(motor, 100 * i, i & 7);
        }
    }

    @Says("From a TICK on a MOTOR has a SPEED")
    static void promise10_fromATickOn() {
        TapeRings x = new TapeRings();
        Edges.due("from 2 on", x.motor(0, 2, 4), true);
        Edges.due("way to 2", x.way(0, 2), 2);
        Edges.due("way to 3", x.way(0, 3), 6);
        Edges.due("from 0 on", x.motor(0, 0, -1), true);
        Edges.due("way to 1", x.way(0, 1), -1);
        Edges.due("way to 2", x.way(0, 2), -2);
        Edges.due("way to 3", x.way(0, 3), 2);
    }

    @Says("(in place of what was told for this TICK): true.")
    static void promise10_inPlaceOfWhatWasTold() {
        TapeRings x = new TapeRings();
        x.motor(0, 2, 4);
        Edges.due("the same tick", x.motor(0, 2, 0), true);
        Edges.due("way to 9", x.way(0, 9), 2);
        Edges.due("the tick ahead", x.motor(0, 1, 3), true);
        Edges.due("the tick behind", x.motor(0, 3, 3), true);
        Edges.due("way to 9", x.way(0, 9), 1 + 3 + 0 + 6 * 3);
    }

    @Says("Refused: others;")
    static void promise10_othersAreRefused() {
        Edges.range("motor", 0, 1, Edges.FULL, (x, v) -> Edges.of(x.motor(v, 3, 1)), 0);
        Edges.range("tick", 0, 5000, Edges.FULL, (x, v) -> Edges.of(x.motor(1, v, 0)), 0);
        Edges.range("speed", -9, 9, Edges.FULL, (x, v) -> Edges.of(x.motor(1, 4, v)), 0);
    }

    @Says("12 TICKS of a MOTOR.")
    static void promise10_twelveTicksOfAMotorAtMost() {
        for (int motor = 0; motor < 2; motor++) {
            int m = motor;
            TapeRings x = new TapeRings();
            told(x, m, 11);
            Edges.due("the twelfth", x.motor(m, 4000, 5), true);
            for (int tick : new int[] {0, 100, 1000, 4000}) {
                Edges.due("one of the twelve", x.motor(m, tick, 6), true);
            }
            Edges.due("the thirteenth", x.motor(m, 4001, 5), false);
            Edges.due("twelve of the other", x.motor(1 - m, 4001, 5), true);
            for (int tick : new int[] {1, 50, 1101, 5000}) {
                Edges.refusedFalse("a thirteenth at " + tick, y -> {
                    Edges.FULL.on(y);
                    y.clear();
                    told(y, m, 12);
                    y.ring(m, 0);
                }, y -> Edges.of(y.motor(m, tick, -3)));
            }
        }
    }

    static void promise10_aTickToldAsTheSpeedThatItHasCountsToo() {
        TapeRings x = new TapeRings();
        for (int i = 0; i < 12; i++) {
            Edges.due("tick " + i, x.motor(0, i, 1), true);
        }
        Edges.due("a thirteenth", x.motor(0, 12, 1), false);
        x.clear();
        Edges.due("behind clear()", x.motor(0, 12, 1), true);
    }

    // ---- promise 11

    @Says("how many RINGS there were.")
    static void promise11_howManyRingsThereWere() {
        TapeRings x = new TapeRings();
        Edges.due("none", x.clear(), 0);
        Check.splice(x, "12");
        for (int n = 1; n <= 4; n++) {
            for (int i = 0; i < n; i++) {
                x.ring(0, 0);
            }
            Edges.due("of " + n, x.clear(), n);
            Edges.due("rings then", x.count(0), 0);
        }
    }

    @Says("No RINGS, MARKS; WISHES 0; SPEEDS as at first:")
    static void promise11_noMarksWishesSpeeds() {
        TapeRings x = Edges.madeBy(Edges.FULL);
        x.clear();
        Edges.due("marks", x.count(1), 0);
        Edges.due("kept()", x.kept(), 0);
        Edges.due("way(0, 5000)", x.way(0, 5000), 5000);
        Edges.due("way(1, 5000)", x.way(1, 5000), 5000);
        Edges.due("all()", x.all(), 1);
        Edges.due("meets(7)", x.meets(7), 7);
        Edges.due("heard(NONE, 0)", x.heard(-1, 0), 0);
        Edges.due("heard(0, 0)", x.heard(0, 0), -1);
        x.ring(0, 0);
        x.ring(1, 0);
        Edges.due("its wish", x.of(0, 5), 0);
        Edges.due("the other's wish", x.of(1, 5), 0);
        Edges.due("its heads", x.of(0, 3), 1);
        Edges.due("the other's heads", x.of(1, 3), 1);
        Edges.due("a mark", x.mark(0, 1), 1);
    }

    @Says("SPEEDS as at first:")
    static void promise11_steadyIs0Again() {
        TapeRings x = new TapeRings();
        x.motor(0, 3, 0);
        x.motor(1, 4, 0);
        x.clear();
        Check.ring(x, "10", 0, 0);
        x.wish(0, 2);
        x.motor(0, 0, 0);
        Edges.due("often() from 0 on", x.often(), 1);
    }

    static void promise11_allElseStays() {
        TapeRings x = Edges.madeBy(Edges.FULL);
        TapeRings y = Edges.madeBy(Edges.FULL);
        x.clear();
        Edges.dueText("the old tape and the versions", Seen.of(x, 1), Seen.of(y, 1));
        x = Edges.madeBy(Edges.FULL);
        x.clear();
        int[] due = {0, 0, 7, 2, 2, 4, 3, 4};
        for (int what = 0; what < due.length; what++) {
            Edges.due("count(" + what + ")", x.count(what), due[what]);
        }
        Edges.due("stop", x.stop(0), 30);
        Edges.due("weight of 2", x.weight(2, 0), 150);
        Edges.due("splice()", x.splice(), 3);
    }

    // ---- promise 12

    @Says({"What 0: RINGS, 1: MARKS, 2: places of the OLD TAPE, 3: PIECES, 4: VERSIONS, 5: numbers of the "
            + "ROW, 6: signs of THE TEXT, 7: INCHES of the STRIP IN HAND.",
        "NONE for another what."})
    static void promise12_whatIsFrom0To7() {
        Edges.range("count", 0, 7, Edges.FULL, TapeRings::count);
        Edges.range("count of a new one", 0, 7, Edges.NEW, TapeRings::count);
        TapeRings x = Edges.madeBy(Edges.FULL);
        int[] due = {2, 2, 7, 2, 2, 4, 3, 4};
        for (int what = 0; what < due.length; what++) {
            Edges.due("count(" + what + ")", x.count(what), due[what]);
        }
    }

    static void promise12_eachAtItsMost() {
        TapeRings x = new TapeRings();
        Check.splice(x, "1*8*3");
        for (int i = 0; i < 70; i++) {
            x.ring(0, 0);
            x.mark(0, 1);
            x.tape(2);
            x.piece((i % 5 + 1) * 0x11111111, 8);
            x.keep(0, 0);
            x.sign(0);
        }
        x.join();
        int[] due = {4, 6, 60, 5, 16, 40, 100, 24};
        for (int what = 0; what < due.length; what++) {
            Edges.due("count(" + what + ")", x.count(what), due[what]);
        }
    }

    static void promise12_askingChangesNothing() {
        Edges.asks("count(5)", Edges.FULL, x -> x.count(5));
    }

    // ---- promise 13

    @Says({"Of a RING, what 0: LENGTH, 1: MOTOR, 2: START, 3: HEADS as bits, 4: ROUND, 5: its WISH.", "another what."})
    static void promise13_whatIsFrom0To5() {
        Edges.rangeThrown("of's what", 0, 5, Edges.FULL, (x, v) -> x.of(1, v));
        TapeRings x = Edges.madeBy(Edges.FULL);
        int[] first = {5, 0, 1, 33, 5, 4};
        int[] second = {5, 1, 2, 3, 1, 64};
        for (int what = 0; what < 6; what++) {
            Edges.due("of(0, " + what + ")", x.of(0, what), first[what]);
            Edges.due("of(1, " + what + ")", x.of(1, what), second[what]);
        }
    }

    @Says("NoSuchElementException: none such,")
    static void promise13_noneSuchIsThrown() {
        Edges.rangeThrown("of's ring", 0, 1, Edges.FULL, (x, v) -> x.of(v, 0));
        for (int what = -1; what <= 6; what++) {
            int w = what;
            Edges.noSuch("of(0, " + w + ") without rings", Edges.NEW, x -> x.of(0, w));
            Edges.noSuch("of(2, " + w + ") of two", Edges.FULL, x -> x.of(2, w));
            Edges.noSuch("of(-1, " + w + ")", Edges.FULL, x -> x.of(-1, w));
        }
        Edges.noSuch("of what is cleared", x -> {
            Edges.FULL.on(x);
            x.clear();
        }, x -> x.of(0, 0));
    }

    static void promise13_askingChangesNothing() {
        for (int what = 0; what <= 5; what++) {
            int w = what;
            Edges.asks("of(0, " + w + ")", Edges.FULL, x -> x.of(0, w));
        }
    }

    // ---- promise 14

    @Says("INCH i of a RING, as bits.")
    static void promise14_inchesFrom0ToTheLast() {
        Edges.range("inch", 0, 4, Edges.FULL, (x, v) -> x.inch(0, v));
        Edges.range("inch's ring", 0, 1, Edges.FULL, (x, v) -> x.inch(v, 0));
        Edges.range("inch of one", 0, 0, x -> Check.ring(x, "0", 0, 0), (x, v) -> x.inch(0, v));
        Edges.range("inch of 24", 0, 23, x -> Check.ring(x, "9*8*3", 0, 0), (x, v) -> x.inch(0, v));
        TapeRings x = Edges.madeBy(Edges.FULL);
        Edges.dueText("all of one", ringSeen(x, 0), "2 4 24 0 32");
        Edges.dueText("all of the other", ringSeen(x, 1), "32 64 128 256 512");
    }

    @Says("NONE: none such.")
    static void promise14_ofWhatIsCutThereIsNone() {
        Edges.range("inch", 0, 2, x -> {
            Edges.FULL.on(x);
            x.cut(0, 2);
        }, (x, v) -> x.inch(0, v));
    }

    @Says("NONE: none such.")
    static void promise14_withoutRingsThereIsNone() {
        Edges.refused("inch(0, 0) of a new one", Edges.NEW, x -> x.inch(0, 0));
        Edges.refused("inch(0, 0) of what is cleared", x -> {
            Edges.FULL.on(x);
            x.clear();
        }, x -> x.inch(0, 0));
    }
}
