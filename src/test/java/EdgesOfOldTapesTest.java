/** Promises 31 to 37 at their edges: OLD TAPES. */
public final class EdgesOfOldTapesTest {
    public static void main(String[] args) {
        Edges.run(EdgesOfOldTapesTest.class);
    }

    private static TapeRings taped(int... bits) {
        TapeRings x = new TapeRings();
        tape(x, bits);
        return x;
    }

    private static void tape(TapeRings x, int... bits) {
        for (int b : bits) {
            x.tape(b);
        }
    }

    // ---- promise 31

    @Says({"A place more of the OLD TAPE (SOUNDS as bits, or NONE): how many.", "Refused: others,"})
    static void promise31_soundsAsBitsOrNone() {
        int[] taken = {-1, 0, 2, 4, 512, 514, 1020, 1022};
        int[] not = {-2, 1, 3, 513, 1023, 1024, 1025, 1026, 2046, Integer.MIN_VALUE, Integer.MAX_VALUE};
        TapeRings x = new TapeRings();
        int n = 0;
        for (int bits : taken) {
            n++;
            Edges.due("tape(" + bits + ")", x.tape(bits), n);
        }
        for (int bits : not) {
            Edges.refused("tape(" + bits + ")", Edges.FULL, y -> y.tape(bits));
            Edges.refused("tape(" + bits + ") of a new one", Edges.NEW, y -> y.tape(bits));
        }
    }

    @Says("60.")
    static void promise31_sixtyPlaces() {
        TapeRings x = new TapeRings();
        for (int n = 1; n <= 60; n++) {
            Edges.due("place " + n, x.tape(n % 2 == 0 ? -1 : 2), n);
        }
        Edges.due("one more", x.tape(2), -1);
        Edges.due("a gap more", x.tape(-1), -1);
        Edges.due("places", x.count(2), 60);
        Edges.due("wipe()", x.wipe(), 60);
        Edges.due("the first again", x.tape(2), 1);
    }

    // ---- promise 32

    @Says({"at n (0 .. 60) TICKS", "Refused: others."})
    static void promise32_nIs0To60() {
        Edges.range("take's n", 0, 60, Edges.FULL, (x, v) -> Edges.of(x.take(2, v)), 0);
        TapeRings x = new TapeRings();
        Check.ring(x, "12", 0, 0);
        for (int n : new int[] {0, 1, 59, 60}) {
            Edges.due("take(0, " + n + ")", x.take(0, n), true);
            Edges.due("places then", x.count(2), n);
        }
    }

    @Says({"TICKS from one (0 .. 100000) on: true.", "Refused: others."})
    static void promise32_ticksAre0To100000() {
        Edges.range("take's tick", 0, 100000, Edges.FULL, (x, v) -> Edges.of(x.take(v, 5)), 0);
        Edges.range("take's tick of 60", 0, 100000, Edges.FULL, (x, v) -> Edges.of(x.take(v, 60)), 0);
        TapeRings x = new TapeRings();
        Check.ring(x, "1".repeat(16) + "2".repeat(8), 0, 0);
        x.take(100000, 60);
        Edges.due("the first place, at 16 of 24", x.mended(0), 4);
        Edges.due("the 8th place, at 23 of 24", x.mended(7), 4);
        Edges.due("the 9th place, at 0 of 24", x.mended(8), 2);
        Edges.due("the last place, at 3 of 24", x.mended(59), 2);
    }

    @Says("The OLD TAPE is what is HEARD in all at n")
    static void promise32_itIsInPlaceOfWhatWasThere() {
        TapeRings x = taped(2, 4, 8, -1, 2);
        Check.ring(x, "56", 1, 0);
        Edges.due("take(1, 3)", x.take(1, 3), true);
        Edges.due("places", x.count(2), 3);
        Edges.due("the first", x.mended(0), 64);
        Edges.due("the last", x.mended(2), 64);
        Edges.due("one more behind them", x.tape(4), 4);
        Edges.due("take(1, 0)", x.take(1, 0), true);
        Edges.due("places", x.count(2), 0);
    }

    static void promise32_withoutRingsNothingIsHeard() {
        TapeRings x = taped(2);
        Edges.due("take(0, 2)", x.take(0, 2), true);
        Edges.due("the first", x.mended(0), 0);
        Edges.due("the last", x.mended(1), 0);
        Edges.due("span(0)", x.span(0), 1);
    }

    static void promise32_laterChangesOfRingsLeaveIt() {
        TapeRings x = new TapeRings();
        Check.ring(x, "12", 0, 0);
        x.take(0, 4);
        x.clear();
        Edges.due("the first", x.mended(0), 2);
        Edges.due("the last", x.mended(3), 4);
    }

    // ---- promise 33

    @Says("false for none such.")
    static void promise33_placesFrom0ToTheLast() {
        Edges.range("gap", 0, 6, Edges.FULL, (x, v) -> Edges.of(x.gap(v)), 0);
        Edges.range("gap of one place", 0, 0, x -> tape(x, 2), (x, v) -> Edges.of(x.gap(v)), 0);
        Edges.range("gap of 60", 0, 59, x -> x.take(0, 60), (x, v) -> Edges.of(x.gap(v)), 0);
        Edges.refusedFalse("gap(0) of none", Edges.NEW, x -> Edges.of(x.gap(0)));
    }

    @Says("A place of it becomes a GAP: true;")
    static void promise33_aPlaceBecomesAGap() {
        TapeRings x = taped(2, 4, 2);
        Edges.due("gap(0)", x.gap(0), true);
        Edges.due("gap(0) again", x.gap(0), true);
        Edges.due("places", x.count(2), 3);
        Edges.due("span(0) of 4, 2", x.span(0), 2);
        x.gap(2);
        Edges.due("span(0) of 4", x.span(0), 1);
        Edges.due("mended(0)", x.mended(0), 4);
    }

    // ---- promise 34

    @Says("An empty OLD TAPE: how long it was.")
    static void promise34_howLongItWas() {
        TapeRings x = new TapeRings();
        Edges.due("of none", x.wipe(), 0);
        x.tape(-1);
        Edges.due("of a gap", x.wipe(), 1);
        Edges.due("then", x.wipe(), 0);
        x.take(0, 60);
        Edges.due("of 60", x.wipe(), 60);
        Edges.due("places then", x.count(2), 0);
        Edges.due("span(23) then", x.span(23), 24);
        Edges.due("mended(0) then", x.mended(0), -1);
        Edges.still("of an empty one", Edges.NEW, y -> y.wipe(), 0);
    }

    // ---- promise 35

    @Says("The i-th SPAN that FITS, ascending.")
    static void promise35_ascendingFrom0On() {
        TapeRings x = taped(2, 4, 2, 4, 2, 4, 2);
        int[] due = {2, 4, 6, 7, 8, 9};
        for (int i = 0; i < due.length; i++) {
            Edges.due("span(" + i + ")", x.span(i), due[i]);
        }
        Edges.due("the last one", x.span(20), 24);
        Edges.due("one more", x.span(21), -1);
    }

    @Says("NONE: none such.")
    static void promise35_noneSuch() {
        Edges.range("span of a new one", 0, 23, Edges.NEW, TapeRings::span);
        int[] none = new int[30];
        for (int i = 0; i < 30; i++) {
            none[i] = i < 6 ? 2 : 4;
        }
        for (int i : new int[] {Integer.MIN_VALUE, -1, 0, 1, 23, Integer.MAX_VALUE}) {
            Edges.refused("span(" + i + ") where none fits", x -> tape(x, none), x -> x.span(i));
        }
        Edges.range("span where one fits", 0, 0, x -> {
            tape(x, none);
            for (int place = 24; place < 30; place++) {
                x.gap(place);
            }
        }, TapeRings::span);
    }

    static void promise35_sixtyPlaces() {
        TapeRings x = new TapeRings();
        for (int i = 0; i < 60; i++) {
            x.tape(i % 24 == 0 ? 2 : i % 24 == 1 ? 4 : 8);
        }
        Edges.due("24 alone", x.span(0), 24);
        Edges.due("no other", x.span(1), -1);
        x.gap(59);
        Edges.due("24 alone", x.span(0), 24);
    }

    static void promise35_askingChangesNothing() {
        Edges.asks("span(0)", Edges.FULL, x -> x.span(0));
    }

    // ---- promise 36

    @Says("The i-th PAIR that FITS: 100 times p, and q.")
    static void promise36_ascendingFrom0On() {
        Edges.range("pair of a new one", 0, 299, Edges.NEW, TapeRings::pair);
        TapeRings x = taped(2, 4);
        int[] due = {102, 103, 202, 104, 203, 105, 204, 303};
        for (int i = 0; i < due.length; i++) {
            Edges.due("pair(" + i + ")", x.pair(i), due[i]);
        }
        Edges.due("the last one", x.pair(298), 2424);
        Edges.due("one more", x.pair(299), -1);
    }

    @Says("NONE: none such.")
    static void promise36_noneSuch() {
        int[] none = new int[60];
        for (int i = 0; i < 60; i++) {
            none[i] = i == 0 || i == 59 ? 2 : i % 7 == 3 ? 0 : 4;
        }
        for (int i : new int[] {Integer.MIN_VALUE, -1, 0, 1, 299, Integer.MAX_VALUE}) {
            Edges.refused("pair(" + i + ") where none fits", x -> tape(x, none), x -> x.pair(i));
        }
    }

    @Says("100 times p, and q.")
    static void promise36_theUtmostPair() {
        TapeRings x = new TapeRings();
        for (int i = 0; i < 60; i++) {
            x.tape((i % 23 == 5 ? 2 : 0) | (i % 24 == 7 ? 4 : 0));
        }
        Edges.due("23 and 24 alone", x.pair(0), 2324);
        Edges.due("no other", x.pair(1), -1);
        x.wipe();
        for (int i = 0; i < 60; i++) {
            x.tape(i % 24 == 7 ? 4 : 0);
        }
        Edges.due("1 and 24", x.pair(0), 124);
        Edges.due("24 and 24 the last of 24", x.pair(23), 2424);
        Edges.due("no other", x.pair(24), -1);
    }

    static void promise36_askingChangesNothing() {
        Edges.asks("pair(0)", Edges.FULL, x -> x.pair(0));
    }

    // ---- promise 37

    @Says("NONE: none such,")
    static void promise37_placesFrom0ToTheLast() {
        Edges.range("mended", 0, 6, Edges.FULL, TapeRings::mended);
        Edges.range("mended of one place", 0, 0, x -> tape(x, 2), TapeRings::mended);
        Edges.range("mended of 60 gaps", 0, 59, x -> {
            for (int i = 0; i < 60; i++) {
                x.tape(-1);
            }
        }, TapeRings::mended);
        for (int place : new int[] {Integer.MIN_VALUE, -1, 0, 1, Integer.MAX_VALUE}) {
            Edges.refused("mended(" + place + ") of none", Edges.NEW, x -> x.mended(place));
        }
    }

    @Says("no PAIR.")
    static void promise37_noneIfNoPairFits() {
        int[] none = new int[60];
        for (int i = 0; i < 60; i++) {
            none[i] = i == 0 || i == 59 ? 2 : i % 7 == 3 ? 0 : 4;
        }
        for (int place : new int[] {-1, 0, 1, 59, 60}) {
            Edges.refused("mended(" + place + ")", x -> tape(x, none), x -> x.mended(place));
        }
    }

    @Says("What a place of the OLD TAPE has")
    static void promise37_aPlaceThatIsNoGapIsAsItIs() {
        TapeRings x = Edges.madeBy(Edges.FULL);
        int[] due = {2, 6, -1, 6, 2, 6, 0};
        for (int place = 0; place < due.length; place++) {
            if (due[place] != -1) {
                Edges.due("mended(" + place + ")", x.mended(place), due[place]);
            }
        }
    }

    @Says("the greatest STRIPS there can be, both together, as bits; of a GAP too.")
    static void promise37_aGapIsOfTheGreatestStrips() {
        TapeRings x = taped(2, -1, 2, -1, 2);
        Edges.due("pair(0)", x.pair(0), 101);
        Edges.due("of one that every place is of", x.mended(1), 2);
        x = taped(2, -1, 4, -1);
        Edges.due("pair(0)", x.pair(0), 103);
        Edges.due("of no place at all", x.mended(1), 1022);
        Edges.due("of the first place's inch", x.mended(3), 2);
        x = taped(-1);
        Edges.due("of gaps alone", x.mended(0), 1022);
        x = taped(0, 2, -1, 0, 2);
        Edges.due("pair(0)", x.pair(0), 103);
        Edges.due("a third that no place is of", x.mended(2), 1022);
    }

    @Says("What a place of the OLD TAPE has by the first PAIR:")
    static void promise37_byTheFirstPair() {
        TapeRings x = taped(6, 4, 2, 4, -1, 4, 2);
        Edges.due("pair(0)", x.pair(0), 104);
        Edges.due("mended(4) by it", x.mended(4), 6);
        x = taped(6, 0, 2, 4, -1, 0, 6);
        Edges.due("pair(0)", x.pair(0), 203);
        Edges.due("mended(4)", x.mended(4), 2);
    }

    static void promise37_askingChangesNothing() {
        Edges.asks("mended(2)", Edges.FULL, x -> x.mended(2));
    }
}
