/** Promises 41 to 45 at their edges: VERSIONS and the ROW. */
public final class EdgesOfVersionsTest {
    public static void main(String[] args) {
        Edges.run(EdgesOfVersionsTest.class);
    }

    private static TapeRings ringOf(String text, int start) {
        TapeRings x = new TapeRings();
        Check.ring(x, text, 0, start);
        return x;
    }

    private static void oneRing(TapeRings x) {
        Check.ring(x, "12", 0, 0);
    }

    // ---- promise 41

    @Says("the VERSION.")
    static void promise41_theVersion() {
        TapeRings x = ringOf("12", 0);
        for (int n = 0; n < 16; n++) {
            Edges.due("version " + n, x.keep(0, 3), n);
            Edges.due("versions then", x.count(4), n + 1);
        }
        Edges.due("one more", x.keep(0, 3), -1);
        Edges.due("versions then", x.count(4), 16);
    }

    @Says("Refused: no such RING,")
    static void promise41_refusedIfThereIsNoSuchRing() {
        Edges.range("keep's ring", 0, 1, Edges.FULL, (x, v) -> x.keep(v, 9));
        Edges.refused("keep(0, 9) without rings", Edges.NEW, x -> x.keep(0, 9));
        Edges.refused("keep(0, 9) of what is cleared", x -> {
            Edges.FULL.on(x);
            x.clear();
        }, x -> x.keep(0, 9));
    }

    @Says("on a DAY (0 .. 999):")
    static void promise41_daysAre0To999() {
        Edges.range("keep's day", 0, 999, EdgesOfVersionsTest::oneRing, (x, v) -> x.keep(0, v));
    }

    @Says("a DAY below the latest one's,")
    static void promise41_refusedADayBelowTheLatestOnes() {
        Edges.range("keep's day behind 7", 7, 999, Edges.FULL, (x, v) -> x.keep(0, v));
        Edges.range("keep's day behind 0", 0, 999, x -> {
            oneRing(x);
            x.keep(0, 0);
        }, (x, v) -> x.keep(0, v));
        Edges.range("keep's day behind 999", 999, 999, x -> {
            Edges.FULL.on(x);
            x.keep(0, 999);
        }, (x, v) -> x.keep(1, v));
    }

    @Says("a DAY below the latest one's,")
    static void promise41_theFirstVersionsDayBindsTheSecond() {
        Edges.range("keep's day behind 500 alone", 500, 999, x -> {
            oneRing(x);
            x.keep(0, 500);
        }, (x, v) -> x.keep(0, v));
    }

    @Says("16.")
    static void promise41_refusedIfThereAre16() {
        for (int day : new int[] {30, 31, 999}) {
            Edges.refused("a 17th at " + day, x -> {
                Edges.FULL.on(x);
                for (int i = 2; i < 16; i++) {
                    x.keep(i & 1, 30);
                }
            }, x -> x.keep(0, day));
        }
    }

    @Says("A RING's STRIP is kept")
    static void promise41_laterChangesLeaveIt() {
        TapeRings x = ringOf("123", 0);
        x.keep(0, 1);
        Check.splice(x, "456");
        x.over(0, 0, 0);
        x.cut(0, 2);
        x.clear();
        Edges.due("versions", x.count(4), 1);
        Edges.due("fetch(0)", x.fetch(0), 3);
        Edges.dueText("its strip", Check.inHand(x), "2 4 8");
    }

    // ---- promise 42

    @Says("of a DAY not above one;")
    static void promise42_ofADayNotAbove() {
        TapeRings x = ringOf("12", 0);
        x.keep(0, 5);
        x.keep(0, 8);
        int[] days = {-1, 0, 4, 5, 6, 7, 8, 9, 999, 1000, Integer.MAX_VALUE, Integer.MIN_VALUE};
        int[] due = {-1, -1, -1, 0, 0, 0, 1, 1, 1, 1, 1, -1};
        for (int i = 0; i < days.length; i++) {
            Edges.due("known(0, " + days[i] + ")", x.known(0, days[i]), due[i]);
        }
    }

    @Says("The latest VERSION of a RING")
    static void promise42_theLatestOfOneDay() {
        TapeRings x = ringOf("12", 0);
        x.ring(0, 0);
        x.keep(0, 5);
        x.keep(1, 5);
        x.keep(0, 5);
        x.keep(1, 6);
        Edges.due("known(0, 5)", x.known(0, 5), 2);
        Edges.due("known(1, 5)", x.known(1, 5), 1);
        Edges.due("known(0, 6)", x.known(0, 6), 2);
        Edges.due("known(1, 6)", x.known(1, 6), 3);
    }

    @Says("NONE: none such.")
    static void promise42_noneSuch() {
        Edges.range("known's ring", 0, 1, Edges.FULL, (x, v) -> x.known(v, 7));
        for (int ring : new int[] {-1, 0, 1, 3, 4}) {
            Edges.refused("known(" + ring + ", 999) without versions", EdgesOfVersionsTest::oneRing,
                    x -> x.known(ring, 999));
        }
        Edges.refused("ring 1 ahead of day 7", Edges.FULL, x -> x.known(1, 6));
        Edges.refused("ring 0 ahead of day 5", Edges.FULL, x -> x.known(0, 4));
        Edges.asks("ring 0 at day 5", Edges.FULL, x -> x.known(0, 5));
    }

    static void promise42_ofARingThatIsClearedToo() {
        TapeRings x = Edges.madeBy(Edges.FULL);
        x.clear();
        Edges.due("known(0, 5)", x.known(0, 5), 0);
        Edges.due("known(1, 7)", x.known(1, 7), 1);
    }

    // ---- promise 43

    @Says("The STRIP IN HAND is that of a VERSION: how many INCHES.")
    static void promise43_howManyInches() {
        for (int n : new int[] {1, 2, 23, 24}) {
            TapeRings x = ringOf("7".repeat(n), 0);
            x.keep(0, 0);
            Check.splice(x, "12");
            Edges.due("fetch(0) of " + n, x.fetch(0), n);
            Edges.due("inches in hand", x.count(7), n);
            Edges.due("the last one", x.hand(n - 1), 128);
            Edges.due("one more", x.hand(n), -1);
        }
    }

    @Says("Refused: none such.")
    static void promise43_noneSuchIsRefused() {
        Edges.range("fetch", 0, 1, Edges.FULL, TapeRings::fetch);
        Edges.refused("fetch(0) of none", Edges.NEW, x -> x.fetch(0));
        Edges.range("fetch of 16", 0, 15, x -> {
            oneRing(x);
            for (int i = 0; i < 16; i++) {
                x.keep(0, i);
            }
        }, TapeRings::fetch);
    }

    static void promise43_theVersionStays() {
        TapeRings x = Edges.madeBy(Edges.FULL);
        x.fetch(0);
        int ring = x.ring(0, 0);
        Check.splice(x, "9*5");
        x.over(ring, 0, 0);
        Edges.due("fetch(0) again", x.fetch(0), 5);
        Edges.dueText("its strip", Check.inHand(x), "2 4 24 0 32");
        Edges.due("signs of the text", x.count(6), 0);
    }

    static void promise43_theTextStays() {
        TapeRings x = Edges.madeBy(Edges.FULL);
        x.fetch(1);
        Edges.due("signs of the text", x.count(6), 3);
        Edges.due("splice()", x.splice(), 3);
    }

    // ---- promise 44

    private static void edits(String one, String other, int due) {
        TapeRings x = ringOf(one, 0);
        Check.ring(x, other, 0, 0);
        x.keep(0, 0);
        x.keep(1, 0);
        Edges.due("edits of " + one + ", " + other, x.edits(0, 1), due);
        Edges.due("edits of " + other + ", " + one, x.edits(1, 0), due);
    }

    @Says("NONE: none such.")
    static void promise44_noneSuch() {
        Edges.range("edits' a", 0, 1, Edges.FULL, (x, v) -> x.edits(v, 0));
        Edges.range("edits' b", 0, 1, Edges.FULL, (x, v) -> x.edits(0, v));
        Edges.refused("edits(0, 0) of none", Edges.NEW, x -> x.edits(0, 0));
        Edges.refused("neither", Edges.FULL, x -> x.edits(2, 2));
    }

    static void promise44_ofAVersionAndItself0() {
        for (int n : new int[] {1, 2, 23, 24}) {
            TapeRings x = ringOf("1".repeat(n - 1) + "2", 0);
            x.keep(0, 0);
            Edges.due("edits of " + n, x.edits(0, 0), 0);
        }
    }

    @Says("EDITS of two VERSIONS.")
    static void promise44_from0ToTheLongerOne() {
        edits("1", "2", 1);
        edits("1", "2*8*3", 24);
        edits("1", "1*8*3", 23);
        edits("1*8*3", "2*8*3", 24);
        edits("(1*8*2)(1*7)", "1*8*3", 1);
        edits("(123)*8", "(231)*8", 0);
    }

    @Says("EDITS of two VERSIONS.")
    static void promise44_turnedByAnyNumber() {
        for (int turn = 0; turn < 7; turn++) {
            String turned = "1234567".substring(turn) + "1234567".substring(0, turn);
            edits("1234567", turned, 0);
            edits("1234567", turned.substring(1), 1);
            edits("1234567", "8" + turned, 1);
            edits("1234567", "8" + turned.substring(1), 1);
            edits("1234567", "8" + turned.substring(2), 2);
        }
        edits("123", "321", 2);
    }

    static void promise44_theHandAndTheRowStay() {
        Edges.asks("edits(0, 1)", Edges.FULL, x -> x.edits(0, 1));
        Edges.due("edits(0, 1)", Edges.madeBy(Edges.FULL).edits(0, 1), 4);
    }

    // ---- promise 45

    @Says({"Number i of the ROW.", "NoSuchElementException: none such."})
    static void promise45_numbersFrom0ToTheLast() {
        Edges.rangeThrown("row", 0, 3, Edges.FULL, TapeRings::row);
        Edges.rangeThrown("row of one", 0, 0, x -> {
            x.piece(0x70000000, 1);
            x.join();
        }, TapeRings::row);
        Edges.rangeThrown("row of 40", 0, 39, x -> {
            for (int i = 1; i <= 5; i++) {
                x.piece(i * 0x11111111, 8);
            }
            x.join();
        }, TapeRings::row);
    }

    @Says("NoSuchElementException: none such.")
    static void promise45_noneSuchAtFirst() {
        for (int i : new int[] {Integer.MIN_VALUE, -1, 0, 1, 39, 40, Integer.MAX_VALUE}) {
            Edges.noSuch("row(" + i + ")", Edges.NEW, x -> x.row(i));
        }
    }

    @Says("NoSuchElementException: none such.")
    static void promise45_aShorterRowHasNoMoreOfTheLongerOne() {
        Edges.rangeThrown("row of plan() behind join()", 0, 1, x -> {
            x.piece(0x12345678, 8);
            x.join();
            oneRing(x);
            x.plan();
        }, TapeRings::row);
        Edges.rangeThrown("row of dies() behind join()", 0, 1, x -> {
            x.piece(0x12345678, 8);
            x.join();
            oneRing(x);
            x.stop(3);
            x.heads(1, 100, 1, 0);
            x.dies();
        }, TapeRings::row);
        Edges.noSuch("row(0) of join() without pieces", x -> {
            Edges.FULL.on(x);
            x.burn();
            x.join();
        }, x -> x.row(0));
    }

    @Says("Number i of the ROW.")
    static void promise45_theRowIsThatOfTheTimeAtWhichItWasTold() {
        TapeRings x = Edges.madeBy(Edges.FULL);
        x.plan();
        String row = Check.row(x);
        x.set(0, 1, 4);
        x.cut(1, 2);
        x.clear();
        x.burn();
        Edges.dueText("the row", Check.row(x), row);
    }

    static void promise45_askingChangesNothing() {
        Edges.asks("row(2)", Edges.FULL, x -> x.row(2));
    }
}
