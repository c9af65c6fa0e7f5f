/** Terms 3 to 7 at their edges: MARKS and PLANS, ECHOES, OLD TAPES, PIECES, VERSIONS, and what is refused. */
public final class EdgesOfTermsThreeToSevenTest {
    public static void main(String[] args) {
        Edges.run(EdgesOfTermsThreeToSevenTest.class);
    }

    private static TapeRings ringOf(String text, int start) {
        TapeRings x = new TapeRings();
        Check.ring(x, text, 0, start);
        return x;
    }

    private static void plans(String called, TapeRings x, int sum, String row) {
        Edges.due("plan() " + called, x.plan(), sum);
        Edges.dueText("the row " + called, Check.row(x), row);
    }

    // ---- term 3

    @Says("MARKS: at most 6:")
    static void term3_sixMarksAtMost() {
        TapeRings x = new TapeRings();
        for (int n = 1; n <= 6; n++) {
            Edges.due("mark " + n, x.mark(n, n), n);
        }
        Edges.refused("a mark more than 6", EdgesOfTermsThreeToSevenTest::sixMarks, y -> y.mark(0, 1));
    }

    private static void sixMarks(TapeRings x) {
        Edges.FULL.on(x);
        for (int i = 0; i < 4; i++) {
            x.mark(4 + 9 * i, 3);
        }
    }

    @Says("a TICK (0 .. 100000),")
    static void term3_marksAreOfTicks0To100000() {
        Edges.range("mark's tick", 0, 100000, Edges.FULL, (x, v) -> x.mark(v, 1));
        TapeRings x = ringOf("120", 0);
        x.mark(0, 1);
        x.mark(100000, 2);
        x.mark(99999, 1);
        Edges.due("kept()", x.kept(), 7);
    }

    @Says("a TICK (0 .. 100000), a SOUND.")
    static void term3_marksAreOfSounds1To9() {
        Edges.range("mark's sound", 1, 9, Edges.FULL, (x, v) -> x.mark(4, v));
        TapeRings x = ringOf("[19]", 0);
        x.mark(0, 1);
        x.mark(0, 2);
        x.mark(0, 8);
        x.mark(0, 9);
        Edges.due("kept()", x.kept(), 9);
    }

    @Says("A mark is TRUE if that SOUND is in HEARD in all at that TICK.")
    static void term3_aMarkIsTrueByHeardInAllAtItsTick() {
        TapeRings x = ringOf("1000", 0);
        Check.ring(x, "0020", 1, 0);
        x.mark(4, 1);
        x.mark(3, 1);
        x.mark(5, 1);
        x.mark(2, 2);
        x.mark(1, 2);
        Edges.due("kept()", x.kept(), 0b01001);
        x.head(1, 1, true);
        Edges.due("kept() with a head more", x.kept(), 0b11001);
    }

    @Says("CUT of a RING by c: its last c INCHES are gone.")
    static void term3_aCutTakesTheLastInches() {
        TapeRings x = ringOf("12345", 0);
        Edges.due("cut(0, 0)", x.cut(0, 0), 5);
        Edges.due("the last one stays", x.inch(0, 4), 32);
        Edges.due("cut(0, 1)", x.cut(0, 1), 4);
        Edges.due("the last one is gone", x.inch(0, 4), -1);
        Edges.due("the one ahead of it stays", x.inch(0, 3), 16);
        Edges.due("cut(0, 3)", x.cut(0, 3), 1);
        Edges.due("the first one stays", x.inch(0, 0), 2);
    }

    @Says("A PLAN: for each RING a c (0 .. LENGTH - 1)")
    static void term3_aPlanCutsFrom0ToLengthLess1() {
        TapeRings x = ringOf("1000", 0);
        x.mark(0, 1);
        plans("of no cut", x, 0, "0 0");
        x.mark(1, 1);
        x.mark(2, 1);
        plans("of all but one inch", x, 15, "3 0");
        x.mark(3, 2);
        Edges.due("plan() of more than all", x.plan(), -1);
    }

    @Says("and a new START (below LENGTH less c):")
    static void term3_aPlansStartIsBelowLengthLessC() {
        TapeRings x = ringOf("0010", 3);
        x.mark(0, 1);
        x.mark(3, 1);
        plans("of a start at the last inch left", x, 6, "1 2");
        x.clear();
        Check.ring(x, "001", 0, 2);
        x.mark(0, 1);
        x.mark(3, 1);
        plans("of the last inch of all", x, 0, "0 2");
        x.mark(1, 1);
        Edges.due("plan() of an inch that would be cut", x.plan(), -1);
    }

    @Says("COST 5 times c, and the size of new less old START.")
    static void term3_costsAre5ForEachInchCutAnd1ForEachTurned() {
        TapeRings x = ringOf("01000000", 0);
        x.mark(0, 1);
        plans("of turning by 1", x, 1, "0 1");
        x.set(0, 1, 7);
        plans("of turning back by 6, not on by 2", x, 6, "0 1");
        x.mark(7, 1);
        plans("of cutting by 1 and turning by 6", x, 11, "1 1");
        x.mark(14, 1);
        plans("of the same", x, 11, "1 1");
    }

    @Says("of equal ones RING by RING the less c,")
    static void term3_ofEqualPlansTheLessC() {
        TapeRings x = ringOf("[12]000210", 0);
        x.mark(0, 1);
        x.mark(6, 2);
        plans("of turning by 5 or cutting by 1", x, 5, "0 5");
    }

    @Says("the less c, then the less START.")
    static void term3_ofEqualPlansThenTheLessStart() {
        TapeRings x = ringOf("1020100", 2);
        x.mark(0, 1);
        plans("of turning by 2 either way", x, 2, "0 0");
        x.mark(0, 1);
        plans("of a mark told twice", x, 2, "0 0");
    }

    @Says("of equal ones RING by RING the less c, then the less START.")
    static void term3_ofEqualPlansRingByRing() {
        TapeRings x = ringOf("01", 0);
        x.ring(0, 0);
        x.mark(0, 1);
        plans("of a greater start of either", x, 1, "0 0 0 1");
        x.clear();
        Check.ring(x, "10", 0, 1);
        x.ring(0, 1);
        x.mark(0, 1);
        plans("of a less start of either", x, 1, "0 0 0 1");
        x.clear();
        Check.ring(x, "10", 0, 0);
        x.ring(0, 0);
        x.mark(0, 1);
        x.mark(1, 2);
        Check.splice(x, "20");
        x.over(0, 0, 1);
        x.over(1, 0, 1);
        plans("of a cut of neither", x, 1, "0 0 0 1");
    }

    @Says("of equal ones RING by RING the less c,")
    static void term3_theLessCOfTheFirstRingIsAheadOfAllElse() {
        TapeRings x = ringOf("[12]0", 0);
        x.ring(0, 0);
        x.mark(0, 1);
        x.mark(1, 2);
        x.mark(2, 1);
        x.mark(3, 1);
        plans("of turning the second", x, 1, "0 0 0 1");
        x.clear();
        Check.ring(x, "102", 0, 0);
        x.ring(0, 0);
        for (int tick = 0; tick < 3; tick++) {
            x.mark(tick, 1);
        }
        x.mark(0, 2);
        plans("of a cut of the second", x, 7, "0 2 1 0");
    }

    @Says("of all PLANS by which all MARKS are TRUE")
    static void term3_aPlanIsOfTheTicksOfAllMarks() {
        TapeRings x = ringOf("12300000", 0);
        x.mark(99999, 2);
        plans("of the last tick but one", x, 2, "0 2");
        x.mark(100000, 3);
        plans("of the last two ticks", x, 2, "0 2");
        x.mark(7, 2);
        x.mark(0, 3);
        plans("of two ticks alike", x, 2, "0 2");
        x.mark(1, 3);
        Edges.due("plan() of one tick more", x.plan(), -1);
    }

    @Says("of all PLANS by which all MARKS are TRUE")
    static void term3_withoutMarksNothingIsDone() {
        TapeRings x = new TapeRings();
        plans("without rings", x, 0, "");
        Check.ring(x, "123", 0, 2);
        plans("of one ring", x, 0, "0 2");
        x.mark(0, 4);
        Edges.due("plan() of a sound that is nowhere", x.plan(), -1);
        Edges.dueText("the row stays", Check.row(x), "0 2");
    }

    // ---- term 4

    private static TapeRings sounding(String text, int stop) {
        TapeRings x = ringOf(text, 0);
        x.stop(stop);
        return x;
    }

    @Says("ECHO: WEIGHTS of SOUNDS (0 .. 200; at first 100).")
    static void term4_weightsAre0To200AndAtFirst100() {
        Edges.range("weight", 0, 200, Edges.FULL, (x, v) -> x.weight(5, v));
        TapeRings x = sounding("1", 1);
        Edges.due("out(0) by the weight at first", x.out(0), 100);
        for (int w : new int[] {0, 1, 199, 200}) {
            x.weight(1, w);
            Edges.due("out(0) by " + w, x.out(0), w);
        }
    }

    @Says("INPUT at TICK t: the sum of WEIGHTS of HEARD in all;")
    static void term4_inputIsOfEachSoundHeardOnce() {
        TapeRings x = sounding("[19]", 1);
        Check.ring(x, "[12]", 1, 0);
        x.weight(1, 1);
        x.weight(2, 20);
        x.weight(9, 150);
        Edges.due("out(0)", x.out(0), 171);
        Check.splice(x, "0");
        x.over(1, 0, 0);
        Edges.due("out(0) of one ring", x.out(0), 151);
        x.over(0, 0, 0);
        Edges.due("out(0) of nothing", x.out(0), 0);
    }

    @Says("from TICK STOP (0 .. 2000; at first 0)")
    static void term4_stopIs0To2000AndAtFirst0() {
        Edges.range("stop", 0, 2000, Edges.FULL, (x, v) -> x.stop(v));
        TapeRings x = ringOf("1", 0);
        Edges.due("out(0) at first", x.out(0), 0);
        Edges.due("stop at first", x.stop(2000), 0);
        Edges.due("out(1999)", x.out(1999), 100);
        Edges.due("out(2000)", x.out(2000), 0);
    }

    @Says("from TICK STOP (0 .. 2000; at first 0) on 0.")
    static void term4_fromStopOnInputIs0() {
        TapeRings x = sounding("1", 3);
        Edges.due("out ahead of it", x.out(2), 100);
        Edges.due("out at it", x.out(3), 0);
        Edges.due("out behind it", x.out(4), 0);
        x.stop(0);
        Edges.due("out(0) of stop 0", x.out(0), 0);
        x.stop(1);
        Edges.due("out(0) of stop 1", x.out(0), 100);
        Edges.due("out(1) of stop 1", x.out(1), 0);
    }

    @Says("Two heads behind: DELAYS d, e (1 .. 20; 1),")
    static void term4_delaysAre1To20() {
        Edges.range("the first delay", 1, 20, Edges.FULL, (x, v) -> Edges.of(x.heads(v, 50, 7, 40)), 0);
        Edges.range("the second delay", 1, 20, Edges.FULL, (x, v) -> Edges.of(x.heads(3, 50, v, 40)), 0);
        TapeRings x = sounding("1", 1);
        x.heads(1, 50, 20, 30);
        Edges.due("out(1)", x.out(1), 50);
        Edges.due("out(19)", x.out(19), 0);
        Edges.due("out(20)", x.out(20), 30);
        Edges.due("out(21) of both", x.out(21), 15 + 15);
    }

    @Says("GAINS a, b (0 .. 100; 0).")
    static void term4_gainsAre0To100AndAtFirst0() {
        Edges.range("the first gain", 0, 100, Edges.FULL, (x, v) -> Edges.of(x.heads(3, v, 7, 40)), 0);
        Edges.range("the second gain", 0, 100, Edges.FULL, (x, v) -> Edges.of(x.heads(3, 50, 7, v)), 0);
        TapeRings x = sounding("1", 1);
        Edges.due("out(1) at first", x.out(1), 0);
        x.heads(1, 1, 2, 0);
        Edges.due("out(1) by 1 of a hundred", x.out(1), 1);
        Edges.due("out(2) by 1 of a hundred", x.out(2), 0);
        x.heads(1, 0, 2, 100);
        Edges.due("out(1) by 0 of a hundred", x.out(1), 0);
        Edges.due("out(2) by all", x.out(2), 100);
        x.heads(1, 99, 1, 100);
        Edges.due("out(1) by both", x.out(1), 199);
    }

    @Says("of a hundred of OUT at t - e, each cut")
    static void term4_eachOfBothIsCut() {
        TapeRings x = sounding("1", 1);
        x.weight(1, 10);
        x.heads(1, 35, 1, 35);
        Edges.due("out(1) of 3.5 and 3.5", x.out(1), 6);
        x.heads(1, 70, 2, 0);
        Edges.due("out(1) of 7.0", x.out(1), 7);
        x.heads(1, 69, 2, 0);
        Edges.due("out(1) of 6.9", x.out(1), 6);
        x.weight(1, 1);
        x.heads(1, 99, 2, 0);
        Edges.due("out(1) of 0.99", x.out(1), 0);
        x.heads(1, 100, 2, 0);
        Edges.due("out(1) of 1", x.out(1), 1);
    }

    @Says("each cut (0 ahead of TICK 0);")
    static void term4_aheadOfTick0ThereIs0() {
        TapeRings x = sounding("1", 30);
        x.heads(3, 50, 5, 20);
        int[] due = {100, 100, 100, 150, 150, 170, 195};
        for (int t = 0; t < due.length; t++) {
            Edges.due("out(" + t + ")", x.out(t), due[t]);
        }
    }

    private static TapeRings loud(String text, int lastWeight) {
        TapeRings x = sounding(text, 2);
        for (int sound = 1; sound <= 8; sound++) {
            x.weight(sound, 200);
        }
        x.weight(9, lastWeight);
        x.heads(1, 100, 1, 100);
        return x;
    }

    @Says("5000 at most.")
    static void term4_outIs5000AtMost() {
        Edges.due("out(1) of 4999", loud("[12345678][123456789]", 199).out(1), 4999);
        Edges.due("out(1) of 5000", loud("[12345678][123456789]", 200).out(1), 5000);
        Edges.due("out(1) of 4998", loud("[123456789][123456789]", 66).out(1), 4998);
        TapeRings x = loud("[123456789][123456789]", 67);
        Edges.due("out(1) of 5001", x.out(1), 5000);
        x.heads(1, 100, 1, 37);
        Edges.due("out(1) of less", x.out(1), 1667 + 1667 + 616);
        Edges.due("out(2) of more from that", x.out(2), 5000);
        x.heads(1, 50, 1, 100);
        x.stop(3);
        Edges.due("out(3) from 5000", x.out(3), 5000);
        x.heads(1, 100, 20, 0);
        x.stop(5);
        Edges.due("out(4) is cut off", x.out(4), 5000);
        Edges.due("out(5) goes on from that", x.out(5), 5000);
    }

    @Says("Behind STOP: it DIES at the first TICK from STOP on")
    static void term4_itDiesAtTheFirstTickFromStopOn() {
        Edges.due("of nothing", new TapeRings().dies(), 0);
        TapeRings x = sounding("0", 7);
        Edges.due("of silence", x.dies(), 7);
        x = sounding("1", 1);
        Edges.due("without gains", x.dies(), 1);
        x.weight(1, 2);
        x.heads(1, 50, 1, 0);
        Edges.due("of 2, 1", x.dies(), 2);
        x = ringOf("1" + "0".repeat(23), 0);
        x.stop(10);
        Edges.due("of what is silent ahead of stop", x.dies(), 10);
        x.stop(2000);
        Edges.due("of the last stop", x.dies(), 2000);
    }

    @Says("from which on OUT is 0 for ever;")
    static void term4_silenceIsNotDeathBefore20Ticks() {
        TapeRings x = sounding("1", 1);
        x.weight(1, 2);
        x.heads(20, 50, 1, 0);
        Edges.due("out(1)", x.out(1), 0);
        Edges.due("out(19)", x.out(19), 0);
        Edges.due("out(20)", x.out(20), 1);
        Edges.due("of 19 silent ticks, 1 and none", x.dies(), 21);
        x.heads(19, 50, 1, 0);
        Edges.due("of 18 silent ticks, 1 and none", x.dies(), 20);
        x.weight(1, 1);
        Edges.due("of none", x.dies(), 1);
    }

    @Says("else it GOES ROUND.")
    static void term4_elseItGoesRound() {
        TapeRings x = sounding("1", 1);
        x.heads(1, 100, 1, 0);
        Edges.due("of what stands", x.dies(), -2);
        Edges.dueText("the row of what stands", Check.row(x), "1 1");
        x.heads(20, 100, 1, 0);
        Edges.due("of what comes in 20", x.dies(), -2);
        Edges.dueText("the row of what comes in 20", Check.row(x), "1 20");
        x.stop(7);
        Edges.due("of a later stop", x.dies(), -2);
        Edges.dueText("the row of a later stop", Check.row(x), "7 20");
        x.heads(1, 100, 1, 100);
        Edges.due("of what grows to 5000", x.dies(), -2);
        Edges.dueText("the row of what grows to 5000", Check.row(x), "7 1");
        x.stop(1);
        Edges.due("of what grows from 100 on", x.dies(), -2);
        Edges.dueText("the row of what grows from 100 on", Check.row(x), "6 1");
    }

    // ---- term 5

    private static TapeRings taped(int... bits) {
        TapeRings x = new TapeRings();
        for (int b : bits) {
            x.tape(b);
        }
        return x;
    }

    private static void sixtyPlaces(TapeRings x) {
        Edges.FULL.on(x);
        for (int i = x.count(2); i < 60; i++) {
            x.tape(2);
        }
    }

    @Says("OLD TAPE: a row of at most 60 places,")
    static void term5_sixtyPlacesAtMost() {
        TapeRings x = new TapeRings();
        for (int n = 1; n <= 60; n++) {
            Edges.due("place " + n, x.tape(2), n);
        }
        Edges.refused("a place more than 60", EdgesOfTermsThreeToSevenTest::sixtyPlaces, y -> y.tape(2));
        Edges.refused("a gap more than 60", EdgesOfTermsThreeToSevenTest::sixtyPlaces, y -> y.tape(-1));
    }

    @Says("A SPAN p (1 .. 24) FITS,")
    static void term5_aSpanIs1To24() {
        TapeRings x = new TapeRings();
        Edges.due("the first one", x.span(0), 1);
        Edges.due("the last one", x.span(23), 24);
        Edges.due("one more", x.span(24), -1);
        x.tape(2);
        for (int i = 1; i < 25; i++) {
            x.tape(4);
        }
        Edges.due("24 apart are unlike", x.span(0), -1);
        x.gap(24);
        Edges.due("24 apart there is a gap", x.span(0), 24);
    }

    @Says("FITS, if no two places a multiple of p apart that are no GAPS are unlike.")
    static void term5_aSpanFitsIfNoTwoPlacesAMultipleApartAreUnlike() {
        Edges.due("once apart", taped(2, 4, 8, 4).span(0), 4);
        Edges.due("twice apart", taped(2, 2, 4).span(0), 3);
        Edges.due("twice apart by two", taped(2, -1, -1, -1, 4).span(0), 3);
        Edges.due("alike", taped(2, 2, 2).span(0), 1);
        Edges.due("nothing is a set like others", taped(0, 2).span(0), 2);
        Edges.due("nothing alike", taped(0, 0).span(0), 1);
    }

    @Says("a multiple of p apart that are no GAPS are unlike.")
    static void term5_gapsAreLikeAll() {
        Edges.due("a gap ahead", taped(-1, 2).span(0), 1);
        Edges.due("a gap behind", taped(2, -1).span(0), 1);
        Edges.due("gaps between alike ones", taped(2, -1, 2).span(0), 1);
        Edges.due("gaps between unlike ones", taped(2, -1, 4).span(0), 3);
        Edges.due("gaps alone", taped(-1, -1, -1).span(0), 1);
    }

    @Says("A PAIR of SPANS p, q (p not above q, each 1 .. 24) FITS,")
    static void term5_aPairHasPNotAboveQEach1To24() {
        TapeRings x = new TapeRings();
        Edges.due("the first one", x.pair(0), 101);
        Edges.due("the last one", x.pair(299), 2424);
        Edges.due("one more", x.pair(300), -1);
        int at = 0;
        for (int sum = 2; sum <= 9; sum++) {
            for (int p = 1; 2 * p <= sum; p++) {
                Edges.due("pair(" + at + ")", x.pair(at), 100 * p + sum - p);
                at++;
            }
        }
    }

    @Says("PAIRS stand by p and q together, then by p.")
    static void term5_pairsStandByTheirSumThenByP() {
        TapeRings x = new TapeRings();
        Edges.due("101, 102, 103", x.pair(2), 103);
        Edges.due("then 202", x.pair(3), 202);
        Edges.due("then 104", x.pair(4), 104);
        Edges.due("then 203", x.pair(5), 203);
        Edges.due("the first of sum 25", x.pair(144), 124);
        Edges.due("the first of sum 26", x.pair(156), 224);
    }

    @Says("so that each place t that is no GAP has just the SOUNDS of INCH t by p of the one and INCH t by "
            + "q of the other together.")
    static void term5_aPairFitsIfBothTogetherHaveJustTheSounds() {
        TapeRings x = taped(6, 2, 2, 6, 2, 2);
        Edges.due("one of 1 and one of 3", x.pair(0), 103);
        x = taped(0, 2, 4, 2, 0, 6);
        Edges.due("one of 2 and one of 3", x.pair(0), 203);
        x = taped(2, 4);
        Edges.due("no sound that a place has not", x.pair(0), 102);
        x = taped(6, 6, 6, 0);
        Edges.due("silence takes it away", x.pair(0), 104);
        x = taped(2, 2);
        Edges.due("alike in both", x.pair(0), 101);
    }

    // ---- term 6

    private static TapeRings pieces(String... told) {
        TapeRings x = new TapeRings();
        for (String p : told) {
            x.piece((int) (Long.parseLong(p, 16) << 4 * (8 - p.length())), p.length());
        }
        return x;
    }

    private static void joins(String sounds, String... told) {
        TapeRings x = pieces(told);
        int length = sounds.isEmpty() ? 0 : sounds.split(" ").length;
        Edges.due("join() of " + String.join(" ", told), x.join(), length);
        Edges.dueText("the row of " + String.join(" ", told), Check.row(x), sounds);
    }

    private static void fivePieces(TapeRings x) {
        Edges.FULL.on(x);
        x.piece(0x12000000, 2);
        x.piece(0x55500000, 3);
        x.piece(0x30000000, 1);
    }

    @Says("PIECES 0 .. (at most 5):")
    static void term6_fivePiecesAtMost() {
        TapeRings x = new TapeRings();
        for (int n = 0; n < 5; n++) {
            Edges.due("piece " + n, x.piece(n << 28, 1), n);
        }
        Edges.refused("a piece more than 5", EdgesOfTermsThreeToSevenTest::fivePieces, y -> y.piece(0, 1));
    }

    @Says("rows of 1 .. 8 SOUNDS")
    static void term6_aPieceHas1To8Sounds() {
        Edges.range("piece's sounds", 1, 8, Edges.FULL, (x, v) -> x.piece(0x12345678, v));
        joins("1", "1");
        joins("1 2 3 4 5 6 7", "1234567");
        joins("1 2 3 4 5 6 7 8", "12345678");
    }

    @Says("SOUNDS or nothing (0 .. 9),")
    static void term6_soundsAre0To9() {
        joins("0", "0");
        joins("9", "9");
        joins("0 9", "90");
        Edges.refused("a digit of 10", Edges.FULL, y -> y.piece(0xA0000000, 1));
        Edges.refused("a digit of 15", Edges.FULL, y -> y.piece(0x9F000000, 2));
    }

    @Says({"each of which may be turned round.", "each as it is or turned;"})
    static void term6_eachMayBeTurned() {
        joins("1 2 3", "321");
        joins("1 2 3 4 5", "321", "345");
        joins("1 2 3 4 5", "123", "543");
        joins("1 2 3 4 5", "321", "543");
    }

    @Says("each but the first laid over the end of all that lies so far with the most it can be alike in")
    static void term6_laidOverTheEndWithTheMost() {
        joins("1 1 2", "11", "112");
        joins("1 2 1 2 3", "1212", "123");
        joins("2 0 1 2 2 0", "01220", "20", "21");
        joins("0 0 0 2 2 0 1 2", "210", "22000", "20");
    }

    @Says("with the most it can be alike in (as long as the shorter one at most).")
    static void term6_alikeAsLongAsTheShorterOneAtMost() {
        joins("1 2 3", "123", "23");
        joins("1 2 3", "23", "123");
        joins("1 2 3", "123", "123");
        joins("1 2 3", "123", "321");
        joins("1 2 3", "123", "3", "23");
        joins("1 2 3 2", "123", "2");
    }

    @Says("SHORTEST: the fewest SOUNDS; of equal ones the least row.")
    static void term6_theShortestAndOfEqualOnesTheLeastRow() {
        joins("1 2", "2", "1");
        joins("1 2 3", "3", "1", "2");
        joins("0 1 2", "2", "10");
        joins("1 2 3 4", "43", "12");
        joins("0 1 2", "01", "21");
        joins("0 1 2 3", "32", "01");
    }

    @Says("PIECES 0 .. (at most 5):")
    static void term6_withoutPieces0() {
        TapeRings x = new TapeRings();
        Edges.due("join() at first", x.join(), 0);
        x.piece(0x12000000, 2);
        x.join();
        x.burn();
        Edges.due("join() of what is burnt", x.join(), 0);
        Edges.due("the row then", x.count(5), 0);
    }

    @Says("JOINED: all in some order,")
    static void term6_fortySoundsAtMost() {
        joins("1 1 1 1 1 1 1 1 2 2 2 2 2 2 2 2 3 3 3 3 3 3 3 3 4 4 4 4 4 4 4 4 5 5 5 5 5 5 5 5",
                "55555555", "33333333", "44444444", "22222222", "11111111");
    }

    // ---- term 7

    private static void sixteenVersions(TapeRings x) {
        Edges.FULL.on(x);
        for (int i = x.count(4); i < 16; i++) {
            x.keep(i & 1, 7 + i);
        }
    }

    @Says("VERSIONS 0 .. (at most 16):")
    static void term7_sixteenVersionsAtMost() {
        TapeRings x = ringOf("1", 0);
        for (int n = 0; n < 16; n++) {
            Edges.due("version " + n, x.keep(0, n), n);
        }
        Edges.refused("a version more than 16", EdgesOfTermsThreeToSevenTest::sixteenVersions, y -> y.keep(0, 999));
    }

    @Says("each of a RING and a DAY (not below the one's ahead).")
    static void term7_aDayIsNotBelowTheOnesAhead() {
        TapeRings x = ringOf("1", 0);
        Edges.due("keep(0, 0)", x.keep(0, 0), 0);
        Edges.due("keep(0, 5)", x.keep(0, 5), 1);
        Edges.due("keep(0, 4)", x.keep(0, 4), -1);
        Edges.due("keep(0, 5) again", x.keep(0, 5), 2);
        Edges.due("keep(0, 6)", x.keep(0, 6), 3);
        Edges.due("keep(0, 5) behind 6", x.keep(0, 5), -1);
        Edges.refused("a day below another ring's", Edges.FULL, y -> y.keep(0, 6));
    }

    private static void editing(String one, String other, int edits) {
        TapeRings x = ringOf(one, 0);
        x.keep(0, 0);
        Check.ring(x, other, 0, 0);
        x.keep(1, 0);
        Edges.due("edits of " + one + ", " + other, x.edits(0, 1), edits);
        Edges.due("edits of " + other + ", " + one, x.edits(1, 0), edits);
    }

    @Says("EDITS of two STRIPS: the fewest of: an INCH changed, one put in, one taken out,")
    static void term7_editsAreChangesPuttingInAndTakingOut() {
        editing("123", "123", 0);
        editing("123", "143", 1);
        editing("123", "1243", 1);
        editing("123", "13", 1);
        editing("1234", "1567", 3);
        editing("1", "2", 1);
        editing("1", "0*8*3", 24);
        editing("1*8*3", "0*8*3", 24);
        editing("1*8*3", "1", 23);
    }

    @Says("so that the one is the other, turned by any number of INCHES (as a ring).")
    static void term7_editsAreOverAllTurns() {
        editing("1234", "2341", 0);
        editing("1234", "4123", 0);
        editing("1234", "3412", 0);
        editing("1234", "3402", 1);
        editing("123456", "45613", 1);
        editing("(12)*9(12)*3", "(21)*9(21)*3", 0);
        editing("12345", "54321", 4);
    }

    @Says("an INCH changed,")
    static void term7_anInchIsLikeAnotherByAllItsSounds() {
        editing("[12]", "1", 1);
        editing("[12]3", "3[21]", 0);
        editing("0", "1", 1);
    }

    @Says("ROW: numbers told last by a call that says so.")
    static void term7_theRowIsWhatWasToldLast() {
        TapeRings x = ringOf("12", 1);
        Edges.due("count(5) at first", x.count(5), 0);
        x.piece(0x34500000, 3);
        x.join();
        Edges.dueText("by join()", Check.row(x), "3 4 5");
        x.plan();
        Edges.dueText("by plan()", Check.row(x), "0 1");
        x.stop(4);
        x.heads(1, 100, 1, 0);
        x.dies();
        Edges.dueText("by dies()", Check.row(x), "4 1");
        x.make();
        Edges.dueText("make() tells none", Check.row(x), "4 1");
        x.heads(1, 0, 1, 0);
        Edges.due("dies()", x.dies(), 4);
        Edges.dueText("dies() tells none if it dies", Check.row(x), "4 1");
    }

    @Says("NONE is asked ahead of other answers below 0 (what a TEXT tells wrongly aside).")
    static void term7_noneIsAskedAheadOfOtherAnswers() {
        TapeRings x = new TapeRings();
        Edges.due("over() of what is empty", x.over(0, 0, 0), -1);
        Edges.due("fetch() of none", x.fetch(0), -1);
        Edges.due("a text is told wrong from its first sign on", x.splice(), -1);
    }

    /** One call of each that can be refused, on an object that holds something of all. */
    @Says("Refused calls answer NONE, or false, and change nothing.")
    static void term7_refusedCallsChangeNothing() {
        int far = Integer.MAX_VALUE;
        Edges.refusedFalse("end", Edges.FULL, x -> Edges.of(x.end(far)));
        Edges.refused("ring", Edges.FULL, x -> x.ring(far, 0));
        Edges.refused("over", Edges.FULL, x -> x.over(far, 0, 0));
        Edges.refused("set", Edges.FULL, x -> x.set(0, far, 0));
        Edges.refused("head", Edges.FULL, x -> x.head(far, 0, true));
        Edges.refusedFalse("motor", Edges.FULL, x -> Edges.of(x.motor(far, 0, 0)));
        Edges.refused("count", Edges.FULL, x -> x.count(far));
        Edges.noSuch("of", Edges.FULL, x -> x.of(far, 0));
        Edges.refused("inch", Edges.FULL, x -> x.inch(far, 0));
        Edges.noSuch("way", Edges.FULL, x -> x.way(far, 0));
        Edges.refused("heard", Edges.FULL, x -> x.heard(far, 0));
        Edges.refusedFalse("wish", Edges.FULL, x -> Edges.of(x.wish(far, 0)));
        Edges.refused("meets", Edges.FULL, x -> x.meets(Long.MAX_VALUE));
        Edges.refused("mark", Edges.FULL, x -> x.mark(far, 1));
        Edges.refused("cut", Edges.FULL, x -> x.cut(far, 0));
        Edges.refused("weight", Edges.FULL, x -> x.weight(far, 0));
        Edges.refusedFalse("heads", Edges.FULL, x -> Edges.of(x.heads(far, 0, 1, 0)));
        Edges.refused("stop", Edges.FULL, x -> x.stop(far));
        Edges.refused("out", Edges.FULL, x -> x.out(far));
        Edges.refused("tape", Edges.FULL, x -> x.tape(far));
        Edges.refusedFalse("take", Edges.FULL, x -> Edges.of(x.take(far, 0)));
        Edges.refusedFalse("gap", Edges.FULL, x -> Edges.of(x.gap(far)));
        Edges.refused("span", Edges.FULL, x -> x.span(far));
        Edges.refused("pair", Edges.FULL, x -> x.pair(far));
        Edges.refused("mended", Edges.FULL, x -> x.mended(far));
        Edges.refused("piece", Edges.FULL, x -> x.piece(0, far));
        Edges.refused("keep", Edges.FULL, x -> x.keep(far, 9));
        Edges.refused("known", Edges.FULL, x -> x.known(far, 9));
        Edges.refused("fetch", Edges.FULL, x -> x.fetch(far));
        Edges.refused("edits", Edges.FULL, x -> x.edits(far, 0));
        Edges.noSuch("row", Edges.FULL, x -> x.row(far));
    }
}
