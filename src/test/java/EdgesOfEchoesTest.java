/** Promises 26 to 30 at their edges: the ECHO. */
public final class EdgesOfEchoesTest {
    public static void main(String[] args) {
        Edges.run(EdgesOfEchoesTest.class);
    }

    private static TapeRings sounding(String text, int weight, int stop) {
        TapeRings x = new TapeRings();
        sound(x, text, weight, stop);
        return x;
    }

    private static void sound(TapeRings x, String text, int weight, int stop) {
        Check.ring(x, text, 0, 0);
        x.weight(1, weight);
        x.stop(stop);
    }

    // ---- promise 26

    @Says("WEIGHT of a SOUND becomes v: what it was.")
    static void promise26_becomesVWhatItWas() {
        TapeRings x = new TapeRings();
        for (int sound = 1; sound <= 9; sound++) {
            Edges.due("of " + sound + " at first", x.weight(sound, sound), 100);
        }
        for (int sound = 1; sound <= 9; sound++) {
            Edges.due("of " + sound, x.weight(sound, 200), sound);
            Edges.due("of " + sound, x.weight(sound, 0), 200);
            Edges.due("of " + sound, x.weight(sound, 0), 0);
        }
    }

    @Says("Refused: others.")
    static void promise26_othersAreRefused() {
        Edges.range("sound", 1, 9, Edges.FULL, (x, v) -> x.weight(v, 7));
        Edges.range("weight", 0, 200, Edges.FULL, (x, v) -> x.weight(9, v));
        Edges.refused("neither", Edges.FULL, x -> x.weight(0, 201));
    }

    static void promise26_staysOverClear() {
        TapeRings x = Edges.madeBy(Edges.FULL);
        x.clear();
        Edges.due("of 2", x.weight(2, 0), 150);
    }

    // ---- promise 27

    @Says("Refused: others.")
    static void promise27_othersAreRefused() {
        Edges.range("d", 1, 20, Edges.FULL, (x, v) -> Edges.of(x.heads(v, 1, 1, 1)), 0);
        Edges.range("a", 0, 100, Edges.FULL, (x, v) -> Edges.of(x.heads(1, v, 1, 1)), 0);
        Edges.range("e", 1, 20, Edges.FULL, (x, v) -> Edges.of(x.heads(1, 1, v, 1)), 0);
        Edges.range("b", 0, 100, Edges.FULL, (x, v) -> Edges.of(x.heads(1, 1, 1, v)), 0);
    }

    @Says("DELAYS and GAINS: true.")
    static void promise27_allFourBecomeThoseTold() {
        TapeRings x = sounding("1", 200, 1);
        Edges.due("heads", x.heads(2, 50, 3, 10), true);
        int[] due = {200, 0, 100, 20, 50, 20, 27};
        for (int t = 0; t < due.length; t++) {
            Edges.due("out(" + t + ")", x.out(t), due[t]);
        }
        Edges.due("the other way", x.heads(3, 10, 2, 50), true);
        for (int t = 0; t < due.length; t++) {
            Edges.due("out(" + t + ") the other way", x.out(t), due[t]);
        }
    }

    @Says("DELAYS and GAINS:")
    static void promise27_theUtmostDelays() {
        TapeRings x = sounding("1", 200, 1);
        x.heads(20, 100, 1, 0);
        Edges.due("out(19)", x.out(19), 0);
        Edges.due("out(20)", x.out(20), 200);
        Edges.due("out(21)", x.out(21), 0);
        x.heads(19, 100, 1, 0);
        Edges.due("out(19) of 19", x.out(19), 200);
        x.heads(1, 100, 20, 0);
        Edges.due("out(1) of 1", x.out(1), 200);
    }

    // ---- promise 28

    @Says("STOP becomes v: what it was.")
    static void promise28_becomesVWhatItWas() {
        TapeRings x = new TapeRings();
        Edges.due("at first", x.stop(2000), 0);
        Edges.due("then", x.stop(1999), 2000);
        Edges.due("then", x.stop(0), 1999);
        Edges.due("then", x.stop(1), 0);
        Edges.due("then", x.stop(1), 1);
    }

    @Says("Refused: others.")
    static void promise28_othersAreRefused() {
        Edges.range("stop", 0, 2000, Edges.FULL, TapeRings::stop);
        Edges.range("stop of a new one", 0, 2000, Edges.NEW, TapeRings::stop);
    }

    static void promise28_staysOverClear() {
        TapeRings x = Edges.madeBy(Edges.FULL);
        x.clear();
        Edges.due("stop", x.stop(0), 30);
    }

    // ---- promise 29

    @Says({"OUT at a TICK (0 .. 4000).", "NONE: others."})
    static void promise29_ticksAre0To4000() {
        Edges.range("out's tick", 0, 4000, Edges.FULL, TapeRings::out);
        Edges.range("out's tick of a new one", 0, 4000, Edges.NEW, TapeRings::out);
        TapeRings x = sounding("1", 7, 2000);
        x.heads(20, 100, 1, 0);
        Edges.due("out(0)", x.out(0), 7);
        Edges.due("out(3999)", x.out(3999), 700);
        Edges.due("out(4000)", x.out(4000), 700);
    }

    static void promise29_withoutRingsNothing() {
        TapeRings x = new TapeRings();
        x.stop(2000);
        x.heads(1, 100, 1, 100);
        Edges.due("out(0)", x.out(0), 0);
        Edges.due("out(4000)", x.out(4000), 0);
    }

    @Says("OUT at a TICK")
    static void promise29_inAnyOrderOfTicks() {
        TapeRings x = sounding("10", 64, 2);
        x.heads(1, 50, 1, 0);
        int[] due = {64, 32, 16, 8, 4, 2, 1, 0};
        for (int t = due.length - 1; t >= 0; t--) {
            Edges.due("out(" + t + ")", x.out(t), due[t]);
        }
        x.stop(0);
        Edges.due("out(7) of nothing", x.out(7), 0);
        Edges.due("out(0) of nothing", x.out(0), 0);
    }

    static void promise29_askingChangesNothing() {
        Edges.asks("out(8)", Edges.FULL, x -> x.out(8));
    }

    // ---- promise 30

    private static void goes(String told, TapeRings x, int first, int ticks) {
        Edges.due("dies() " + told, x.dies(), -2);
        Edges.dueText("the row " + told, Check.row(x), first + " " + ticks);
    }

    @Says("The TICK at which the ECHO DIES.")
    static void promise30_theTickAtWhichItDies() {
        TapeRings x = sounding("1", 8, 1);
        x.heads(1, 50, 1, 0);
        Edges.due("of 8, 4, 2, 1", x.dies(), 4);
        x.stop(2);
        Edges.due("of 12, 6, 3, 1", x.dies(), 5);
        x.heads(20, 50, 1, 0);
        Edges.due("of two each 20 ticks", x.dies(), 62);
        Edges.still("of what is told of a row", Edges.FULL, y -> y.dies(), Edges.madeBy(Edges.FULL).dies());
    }

    @Says({"The TICK at which the ECHO DIES.", "from STOP on, all 0;"})
    static void promise30_fromStopOn() {
        TapeRings x = sounding("1" + "0".repeat(23), 100, 23);
        Edges.due("silent since 1", x.dies(), 23);
        x.stop(24);
        Edges.due("silent since 1", x.dies(), 24);
        x.stop(25);
        Edges.due("of another one at 24", x.dies(), 25);
        x.stop(0);
        Edges.due("of none", x.dies(), 0);
    }

    @Says("(no 20 TICKS one behind another from STOP on, all 0;")
    static void promise30_twentyTicksOf0() {
        TapeRings x = sounding("1", 2, 1);
        x.heads(20, 50, 1, 0);
        Edges.due("19 ticks of 0, then 1", x.dies(), 21);
        x.stop(2);
        Edges.due("18 ticks of 0, then 1 and 1", x.dies(), 22);
        x.weight(1, 1);
        Edges.due("20 ticks of 0 from 2 on", x.dies(), 2);
    }

    @Says("-3: neither can be seen from OUT at TICKS up to 4000")
    static void promise30_theLastTicksSeenOfOneThatDies() {
        TapeRings x = sounding("[12]", 200, 1);
        x.weight(2, 167);
        x.heads(20, 99, 1, 0);
        Edges.due("out(3980)", x.out(3980), 1);
        Edges.due("out(3981)", x.out(3981), 0);
        Edges.due("out(4000)", x.out(4000), 0);
        Edges.due("0 from 3981 to 4000", x.dies(), 3981);
        Edges.still("0 from 3982 to 4000", y -> {
            Edges.FULL.on(y);
            y.clear();
            sound(y, "[12]", 200, 2);
            y.weight(2, 167);
            y.heads(20, 99, 1, 0);
        }, y -> y.dies(), -3);
    }

    @Says({"-2: it GOES ROUND:", "and the fewest TICKS in which it does;"})
    static void promise30_comesBackForEver() {
        TapeRings x = sounding("1", 100, 1);
        x.heads(1, 100, 1, 0);
        goes("of one that stands", x, 1, 1);
        x.heads(19, 100, 1, 0);
        goes("of one in 19", x, 1, 19);
        x.heads(20, 100, 1, 0);
        goes("of one in 20", x, 1, 20);
        x.heads(10, 100, 20, 0);
        goes("of one in 10", x, 1, 10);
        x.stop(10);
        goes("of ten alike", x, 10, 1);
        x.stop(11);
        goes("of one that is doubled", x, 11, 10);
        x.stop(2000);
        goes("of the last stop", x, 2000, 1);
    }

    @Says("the ROW: the first TICK from STOP on from which on OUT comes back for ever,")
    static void promise30_theFirstTickFromWhichItComesBack() {
        TapeRings x = sounding("1", 100, 1);
        x.heads(2, 100, 2, 100);
        goes("of one that doubles to 5000", x, 11, 2);
        Edges.due("out(10)", x.out(10), 3200);
        Edges.due("out(11)", x.out(11), 0);
        Edges.due("out(12)", x.out(12), 5000);
        Edges.due("out(14)", x.out(14), 5000);
    }

    @Says("nor twice the same 20).")
    static void promise30_theLastTicksSeenOfOneThatGoesRound() {
        TapeRings x = sounding("1", 84, 16);
        x.heads(15, 61, 20, 41);
        goes("twice the same 20 up to 4000", x, 3966, 15);
        x = sounding("1", 155, 1);
        x.heads(19, 100, 8, 5);
        goes("the same 20 up to 3999 and to 4000", x, 3980, 1);
        Edges.still("not twice the same 20 up to 4000", y -> {
            Edges.FULL.on(y);
            y.clear();
            sound(y, "1", 147, 15);
            y.heads(19, 100, 6, 2);
        }, y -> y.dies(), -3);
    }

    @Says("-2: it GOES ROUND: the ROW:")
    static void promise30_theRowStaysUnlessItGoesRound() {
        TapeRings x = Edges.madeBy(Edges.FULL);
        Edges.dueText("the row ahead", Check.row(x), "1 2 3 4");
        x.heads(1, 0, 1, 0);
        Edges.due("dies()", x.dies(), 30);
        Edges.dueText("the row of one that dies", Check.row(x), "1 2 3 4");
        x.clear();
        sound(x, "[123456789]", 100, 1);
        x.heads(20, 99, 1, 0);
        Edges.due("dies()", x.dies(), -3);
        Edges.dueText("the row of one that can't be seen", Check.row(x), "1 2 3 4");
        x.heads(20, 100, 1, 0);
        Edges.due("dies()", x.dies(), -2);
        Edges.dueText("the row of one that goes round", Check.row(x), "1 20");
    }
}
