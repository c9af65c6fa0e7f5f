/** Promises 41 to 45: VERSIONS and the ROW. */
public final class VersionsTest {
    private static final Check check = new Check("VersionsTest");

    public static void main(String[] args) {
        keeping();
        knowing();
        fetching();
        editing();
        rows();
        check.end();
    }

    private static void keeping() {
        TapeRings x = new TapeRings();
        check.due(41, "keep(0, 0) without rings", x.keep(0, 0), -1);
        Check.ring(x, "123", 0, 0);
        check.due(41, "keep(0, -1)", x.keep(0, -1), -1);
        check.due(41, "keep(0, 1000)", x.keep(0, 1000), -1);
        check.due(41, "keep(1, 0)", x.keep(1, 0), -1);
        check.due(41, "keep(-1, 0)", x.keep(-1, 0), -1);
        check.due(41, "none after refused ones", x.count(4), 0);
        check.due(41, "keep(0, 5)", x.keep(0, 5), 0);
        check.due(41, "keep(0, 4)", x.keep(0, 4), -1);
        check.due(41, "keep(0, 5) again", x.keep(0, 5), 1);
        for (int i = 2; i < 16; i++) {
            check.due(41, "keep(0, 999) " + i, x.keep(0, 999), i);
        }
        check.due(41, "the 17th", x.keep(0, 999), -1);
        check.due(41, "count(4)", x.count(4), 16);
    }

    private static void knowing() {
        TapeRings x = new TapeRings();
        Check.ring(x, "123", 0, 0);
        x.ring(0, 0);
        x.keep(0, 3);
        x.keep(1, 3);
        x.keep(0, 3);
        x.keep(0, 7);
        check.due(42, "known(0, 2)", x.known(0, 2), -1);
        check.due(42, "known(0, 3)", x.known(0, 3), 2);
        check.due(42, "known(0, 6)", x.known(0, 6), 2);
        check.due(42, "known(0, 7)", x.known(0, 7), 3);
        check.due(42, "known(0, 999)", x.known(0, 999), 3);
        check.due(42, "known(1, 999)", x.known(1, 999), 1);
        check.due(42, "known(2, 999)", x.known(2, 999), -1);
        check.due(42, "known(-1, 999)", x.known(-1, 999), -1);
        check.due(42, "known(0, -1)", x.known(0, -1), -1);
    }

    private static void fetching() {
        TapeRings x = new TapeRings();
        check.due(43, "fetch(0) of none", x.fetch(0), -1);
        Check.ring(x, "123", 0, 0);
        x.keep(0, 0);
        Check.splice(x, "45678");
        x.over(0, 0, 0);
        x.cut(0, 1);
        x.keep(0, 0);
        check.due(43, "fetch(0)", x.fetch(0), 3);
        check.dueText(43, "as it was kept", Check.inHand(x), "2 4 8");
        check.due(43, "fetch(1)", x.fetch(1), 2);
        check.dueText(43, "as it was kept then", Check.inHand(x), "16 32");
        check.due(43, "fetch(2)", x.fetch(2), -1);
        check.due(43, "fetch(-1)", x.fetch(-1), -1);
        check.dueText(43, "the strip in hand stays", Check.inHand(x), "16 32");
        x.clear();
        check.due(43, "fetch(0) without rings", x.fetch(0), 3);
    }

    private static void edited(String one, String other, int edits) {
        TapeRings x = new TapeRings();
        Check.ring(x, one, 0, 0);
        x.keep(0, 0);
        Check.ring(x, other, 0, 0);
        x.keep(1, 0);
        check.due(44, "edits of " + one + " and " + other, x.edits(0, 1), edits);
        check.due(44, "edits of " + other + " and " + one, x.edits(1, 0), edits);
        check.due(44, "edits of it and itself", x.edits(0, 0), 0);
        check.due(44, "edits(0, 2)", x.edits(0, 2), -1);
        check.due(44, "edits(2, 0)", x.edits(2, 0), -1);
        check.due(44, "edits(-1, 0)", x.edits(-1, 0), -1);
        check.due(44, "edits(0, -1)", x.edits(0, -1), -1);
    }

    private static void editing() {
        edited("123", "123", 0);
        edited("123", "231", 0);
        edited("123", "312", 0);
        edited("123", "321", 2);
        edited("123", "1234", 1);
        edited("1234", "4532", 3);
        edited("123456", "345612", 0);
        edited("1234567", "56123", 2);
        edited("1", "2*8*3", 24);
        edited("1*8*3", "2*8*3", 24);
        edited("[12]", "1", 1);
        edited("11", "1", 1);
        edited("121212", "212121", 0);
    }

    private static void rows() {
        TapeRings x = new TapeRings();
        check.throwsNoSuch(45, "row(0) at first", () -> x.row(0));
        x.piece(0x12340000, 4);
        x.join();
        check.due(45, "row(0)", x.row(0), 1);
        check.due(45, "row(3)", x.row(3), 4);
        for (int i : new int[] {-1, 4, 40, 41, Integer.MIN_VALUE, Integer.MAX_VALUE}) {
            check.throwsNoSuch(45, "row(" + i + ")", () -> x.row(i));
        }
        Check.ring(x, "1", 0, 0);
        x.plan();
        check.due(45, "a shorter one", x.count(5), 2);
        check.throwsNoSuch(45, "row(2) of a shorter one", () -> x.row(2));
    }
}
