/** Promises 31 to 37: OLD TAPES. */
public final class OldTapesTest {
    private static final Check check = new Check("OldTapesTest");

    public static void main(String[] args) {
        places();
        taking();
        gaps();
        spans();
        pairs();
        mending();
        check.end();
    }

    private static TapeRings taped(int... bits) {
        TapeRings x = new TapeRings();
        for (int b : bits) {
            x.tape(b);
        }
        return x;
    }

    private static void places() {
        TapeRings x = new TapeRings();
        for (int bits : new int[] {1, 3, 1024, -2, Integer.MIN_VALUE, Integer.MAX_VALUE}) {
            check.due(31, "tape(" + bits + ")", x.tape(bits), -1);
        }
        check.due(31, "places after refused ones", x.count(2), 0);
        check.due(31, "tape(-1)", x.tape(-1), 1);
        check.due(31, "tape(0)", x.tape(0), 2);
        check.due(31, "tape(1022)", x.tape(1022), 3);
        for (int i = 4; i <= 60; i++) {
            check.due(31, "tape(2) " + i, x.tape(2), i);
        }
        check.due(31, "the 61st", x.tape(2), -1);
        check.due(34, "wipe()", x.wipe(), 60);
        check.due(34, "places then", x.count(2), 0);
        check.due(34, "wipe() of an empty one", x.wipe(), 0);
        check.due(34, "tape(2) then", x.tape(2), 1);
    }

    private static void taking() {
        TapeRings x = taped(2, 4, 8);
        check.due(32, "take(0, 61)", x.take(0, 61), false);
        check.due(32, "take(0, -1)", x.take(0, -1), false);
        check.due(32, "take(-1, 0)", x.take(-1, 0), false);
        check.due(32, "take(100001, 0)", x.take(100001, 0), false);
        check.due(32, "places after refused ones", x.count(2), 3);
        check.due(32, "take(0, 2) without rings", x.take(0, 2), true);
        check.due(32, "places then", x.count(2), 2);
        check.due(32, "silence", x.mended(0), 0);
        Check.ring(x, "123", 0, 0);
        Check.ring(x, "40", 1, 0);
        check.due(32, "take(100000, 60)", x.take(100000, 60), true);
        check.due(32, "places of it", x.count(2), 60);
        check.due(32, "its first pair", x.pair(0), 203);
        check.due(32, "its first place", x.mended(0), 4 | 16);
        check.due(32, "its last place", x.mended(59), 2);
        check.due(32, "take(5, 0)", x.take(5, 0), true);
        check.due(32, "none then", x.count(2), 0);
    }

    private static void gaps() {
        TapeRings x = taped(2, 4, 2);
        check.due(33, "gap(3)", x.gap(3), false);
        check.due(33, "gap(-1)", x.gap(-1), false);
        check.due(33, "span(0) with all places", x.span(0), 2);
        check.due(33, "gap(1)", x.gap(1), true);
        check.due(33, "a gap again", x.gap(1), true);
        check.due(33, "span(0) with a gap", x.span(0), 1);
        check.due(33, "gap(2)", x.gap(2), true);
        check.due(33, "places", x.count(2), 3);
        check.due(33, "gap(0) of an empty one", new TapeRings().gap(0), false);
    }

    private static void spans() {
        TapeRings x = taped(2, 4, 8, 2, 4, 8, 2);
        int[] due = {3, 6, 7, 8};
        for (int i = 0; i < due.length; i++) {
            check.due(35, "span(" + i + ")", x.span(i), due[i]);
        }
        check.due(35, "span(19)", x.span(19), 24);
        check.due(35, "span(20)", x.span(20), -1);
        check.due(35, "span(-1)", x.span(-1), -1);
        x = new TapeRings();
        check.due(35, "span(23) of none", x.span(23), 24);
        check.due(35, "span(24) of none", x.span(24), -1);
        x = taped(2, -1, 2, -1, 4);
        check.due(35, "span(0) with gaps", x.span(0), 3);
        x = taped(-1, 2, -1, 2, 2);
        check.due(35, "span(0) of gaps first", x.span(0), 1);
        x = taped(0, 2);
        check.due(35, "nothing is no gap", x.span(0), 2);
        x = new TapeRings();
        for (int i = 0; i < 60; i++) {
            x.tape(1 << 1 + i % 9 | 1 << 1 + i / 9);
        }
        check.due(35, "no span", x.span(0), -1);
    }

    private static void pairs() {
        TapeRings x = new TapeRings();
        check.due(36, "pair(0) of none", x.pair(0), 101);
        check.due(36, "pair(1) of none", x.pair(1), 102);
        check.due(36, "pair(2) of none", x.pair(2), 103);
        check.due(36, "pair(3) of none", x.pair(3), 202);
        check.due(36, "pair(299) of none", x.pair(299), 2424);
        check.due(36, "pair(300) of none", x.pair(300), -1);
        check.due(36, "pair(-1) of none", x.pair(-1), -1);
        x = taped(2, 4, 2);
        check.due(36, "pair(0)", x.pair(0), 102);
        check.due(36, "pair(1)", x.pair(1), 103);
        check.due(36, "pair(2)", x.pair(2), 202);
        x = taped(6, 0, 2, 4, 2, 0);
        check.due(36, "one of 2 and one of 3", x.pair(0), 203);
        x = taped(2, 4, 2, 4, 2, 8);
        check.due(36, "one of its whole length", x.pair(0), 106);
        x = new TapeRings();
        for (int i = 0; i < 60; i++) {
            x.tape(i == 0 || i == 59 ? 2 : i % 7 == 3 ? 0 : 4);
        }
        check.due(36, "no pair", x.pair(0), -1);
        check.due(37, "mended(0) of no pair", x.mended(0), -1);
    }

    private static void mending() {
        TapeRings x = taped(6, 0, -1, 4, 2, 0, 6);
        check.due(36, "pair(0) with a gap", x.pair(0), 203);
        check.due(37, "mended(2)", x.mended(2), 2);
        check.due(37, "mended(0)", x.mended(0), 6);
        check.due(37, "mended(6)", x.mended(6), 6);
        check.due(37, "mended(7)", x.mended(7), -1);
        check.due(37, "mended(-1)", x.mended(-1), -1);
        check.due(37, "mended(0) of none", new TapeRings().mended(0), -1);
        x = taped(-1, -1);
        check.due(37, "the greatest there can be", x.mended(1), 1022);
        x = taped(2, -1, 8);
        check.due(36, "pair of what stands by", x.pair(0), 103);
        check.due(37, "a gap of the greatest", x.mended(1), 1022);
    }
}
