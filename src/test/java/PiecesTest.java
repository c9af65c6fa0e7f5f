/** Promises 38 to 40: PIECES. */
public final class PiecesTest {
    private static final Check check = new Check("PiecesTest");

    public static void main(String[] args) {
        pieces();
        burning();
        joining();
        check.end();
    }

    private static void pieces() {
        TapeRings x = new TapeRings();
        check.due(38, "piece(0, 0)", x.piece(0, 0), -1);
        check.due(38, "piece(0, 9)", x.piece(0, 9), -1);
        check.due(38, "piece(0, -1)", x.piece(0, -1), -1);
        check.due(38, "a digit above 9", x.piece(0x1234567A, 8), -1);
        check.due(38, "the first above 9", x.piece(0xA0000000, 1), -1);
        check.due(38, "F", x.piece(0xF0000000, 1), -1);
        check.due(38, "none after refused ones", x.count(3), 0);
        check.due(38, "one behind the first n", x.piece(0x1234567A, 7), 0);
        check.due(38, "9 as the highest", x.piece(0x98765432, 8), 1);
        check.due(38, "a third", x.piece(0, 8), 2);
        check.due(38, "a fourth", x.piece(0, 1), 3);
        check.due(38, "a fifth", x.piece(0, 1), 4);
        check.due(38, "a sixth", x.piece(0, 1), -1);
        check.due(38, "five", x.count(3), 5);
    }

    private static void burning() {
        TapeRings x = new TapeRings();
        check.due(39, "burn() of none", x.burn(), 0);
        x.piece(0x12000000, 2);
        x.piece(0x12000000, 2);
        check.due(39, "burn()", x.burn(), 2);
        check.due(39, "none then", x.count(3), 0);
        check.due(39, "a new first one", x.piece(0x56000000, 2), 0);
        x.join();
        check.dueText(39, "the new one alone", Check.row(x), "5 6");
    }

    private static void joined(String sounds, String... pieces) {
        TapeRings x = new TapeRings();
        for (String p : pieces) {
            x.piece((int) (Long.parseLong(p, 16) << 4 * (8 - p.length())), p.length());
        }
        String told = String.join(" ", pieces);
        check.due(40, "join() of " + told, x.join(), (sounds.length() + 1) / 2);
        check.dueText(40, "row of " + told, Check.row(x), sounds);
    }

    private static void joining() {
        TapeRings x = new TapeRings();
        x.plan();
        check.due(40, "join() of none", x.join(), 0);
        check.due(40, "count(5)", x.count(5), 0);
        joined("1 2 3", "321");
        joined("1 2", "12", "12");
        joined("1 2", "12", "21");
        joined("1 2 3 4 5", "123", "345");
        joined("1 2 3 4 5", "543", "123");
        joined("1 2 3 4 5", "123", "345", "54");
        joined("0 1 0", "010", "01", "10");
        joined("1 2 1 2 1 2", "12121", "212");
        joined("1 2 3 4 2 3", "1234", "23");
        joined("1 3 2 4", "13", "24");
        joined("1 1 1 1 2 3 4 5 6 7", "1111", "234", "567");
        joined("0 9 8 7 6 5 4 3 2 1", "1234", "3456", "5678", "789", "90");
        joined("1 1 1 1 1 1 1 1 2 2 2 2 2 2 2 2 3 3 3 3 3 3 3 3 4 4 4 4 4 4 4 4 5 5 5 5 5 5 5 5",
                "55555555", "44444444", "33333333", "22222222", "11111111");
    }
}
