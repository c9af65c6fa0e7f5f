/** Promises 38 to 40 at their edges: PIECES. */
public final class EdgesOfPiecesTest {
    public static void main(String[] args) {
        Edges.run(EdgesOfPiecesTest.class);
    }

    private static void put(TapeRings x, String... told) {
        for (String p : told) {
            x.piece((int) (Long.parseLong(p, 16) << 4 * (8 - p.length())), p.length());
        }
    }

    private static void joins(String sounds, String... told) {
        TapeRings x = new TapeRings();
        put(x, told);
        Edges.due("join() of " + String.join(" ", told), x.join(), sounds.isEmpty() ? 0 : sounds.split(" ").length);
        Edges.dueText("the row of " + String.join(" ", told), Check.row(x), sounds);
    }

    // ---- promise 38

    @Says("its number.")
    static void promise38_itsNumber() {
        TapeRings x = new TapeRings();
        for (int n = 0; n < 5; n++) {
            Edges.due("piece " + n, x.piece(0x12345678, n + 1), n);
            Edges.due("pieces then", x.count(3), n + 1);
        }
        Edges.due("one more", x.piece(0x12345678, 1), -1);
        Edges.due("pieces then", x.count(3), 5);
        x.burn();
        Edges.due("behind burn()", x.piece(0x12345678, 1), 0);
    }

    @Says("Refused: others,")
    static void promise38_nIs1To8() {
        Edges.range("piece's n", 1, 8, Edges.FULL, (x, v) -> x.piece(0x98765432, v));
        Edges.range("piece's n of a new one", 1, 8, Edges.NEW, (x, v) -> x.piece(0, v));
    }

    @Says("A PIECE of n SOUNDS: the first n digits of v (of base 16, the highest of its eight first):")
    static void promise38_theFirstNDigitsTheHighestFirst() {
        for (int n = 1; n <= 8; n++) {
            TapeRings x = new TapeRings();
            x.piece(0x12345678, n);
            Edges.due("join() of " + n, x.join(), n);
            Edges.dueText("the row of " + n, Check.row(x), "1 2 3 4 5 6 7 8".substring(0, 2 * n - 1));
        }
        TapeRings x = new TapeRings();
        x.piece(0x98000000, 2);
        x.join();
        Edges.dueText("of a number below 0", Check.row(x), "8 9");
    }

    @Says("a digit above 9,")
    static void promise38_aDigitAbove9IsRefused() {
        Edges.due("9 as the first", new TapeRings().piece(0x90000000, 1), 0);
        Edges.due("9 as the last", new TapeRings().piece(9, 8), 0);
        for (int place = 0; place < 8; place++) {
            for (int digit = 10; digit <= 15; digit += 5) {
                int v = digit << 28 - 4 * place;
                for (int n = place + 1; n <= 8; n++) {
                    int length = n;
                    Edges.refused("piece of " + Integer.toHexString(v) + ", " + n, Edges.FULL, x -> x.piece(v, length));
                }
                if (place > 0) {
                    Edges.due("ahead of " + digit + " at " + place, new TapeRings().piece(v, place), 0);
                }
            }
        }
    }

    @Says("5.")
    static void promise38_fiveAreRefusedMore() {
        Edges.range("the fifth's n", 1, 8, EdgesOfPiecesTest::fourPieces, (x, v) -> x.piece(0x31415926, v));
        for (int n = 0; n <= 9; n++) {
            int length = n;
            Edges.refused("the sixth of " + n, x -> {
                fourPieces(x);
                x.piece(0x55000000, 2);
            }, x -> x.piece(0x31415926, length));
        }
    }

    private static void fourPieces(TapeRings x) {
        Edges.FULL.on(x);
        put(x, "77", "898");
    }

    // ---- promise 39

    @Says("No PIECES: how many there were.")
    static void promise39_howManyThereWere() {
        TapeRings x = new TapeRings();
        Edges.due("none", x.burn(), 0);
        for (int n = 1; n <= 5; n++) {
            for (int i = 0; i < n; i++) {
                x.piece(0x12000000, 2);
            }
            Edges.due("of " + n, x.burn(), n);
            Edges.due("pieces then", x.count(3), 0);
        }
        Edges.still("none again", y -> {
            Edges.FULL.on(y);
            y.burn();
        }, y -> y.burn(), 0);
    }

    static void promise39_theRowStays() {
        TapeRings x = Edges.madeBy(Edges.FULL);
        x.burn();
        Edges.dueText("the row behind burn()", Check.row(x), "1 2 3 4");
        put(x, "9");
        x.join();
        Edges.dueText("the row of a new one alone", Check.row(x), "9");
    }

    // ---- promise 40

    @Says("(0 without PIECES):")
    static void promise40_withoutPieces0AndAnEmptyRow() {
        TapeRings x = new TapeRings();
        Edges.due("join()", x.join(), 0);
        Edges.due("numbers of the row", x.count(5), 0);
        x = Edges.madeBy(Edges.FULL);
        x.burn();
        Edges.due("numbers of the row ahead", x.count(5), 4);
        Edges.due("join()", x.join(), 0);
        Edges.due("numbers of the row", x.count(5), 0);
    }

    @Says({"How many SOUNDS the SHORTEST has", "the ROW: they."})
    static void promise40_onePieceIsItselfOrTurned() {
        joins("0", "0");
        joins("1 2", "12");
        joins("1 2", "21");
        joins("1 2 1", "121");
        joins("1 2 3 4 5 6 7 8", "87654321");
        joins("0 0 0 0 0 0 0 1", "10000000");
    }

    @Says("How many SOUNDS the SHORTEST has")
    static void promise40_theMostFrom0ToTheShorterOne() {
        joins("1 2 3 4", "12", "34");
        joins("1 2 3", "12", "23");
        joins("1 2", "12", "12");
        joins("1 2 3", "123", "12");
        joins("1 2 3 4 5 6 7 8", "12345678", "8");
        joins("1 2 3 4 5 6 7 8", "12345678", "87654321");
        joins("1 2 3 4 5 6 7 8 9", "12345678", "23456789");
        joins("1 2 3 4 5 6 7 8 7", "12345678", "7");
    }

    @Says("the SHORTEST")
    static void promise40_theFewestSoundsOfAllOrders() {
        joins("1 2 3 4 5", "45", "12", "34", "23");
        joins("1 2 3 4 5", "54", "21", "43", "32");
        joins("1 2 3 4 5 6", "56", "45", "34", "23", "12");
    }

    @Says({"the SHORTEST", "the ROW: they."})
    static void promise40_ofEqualOnesTheLeastRow() {
        joins("0 9", "9", "0");
        joins("1 2 3", "3", "2", "1");
        joins("1 0 2", "01", "02");
        joins("0 1 2 3", "23", "10");
    }

    @Says("the ROW: they.")
    static void promise40_fiveOfEightSounds() {
        joins("0 0 0 0 0 0 0 0 6 6 6 6 6 6 6 6 7 7 7 7 7 7 7 7 8 8 8 8 8 8 8 8 9 9 9 9 9 9 9 9",
                "99999999", "77777777", "88888888", "66666666", "00000000");
        joins("1 1 1 1 1 1 1 1", "11111111", "11111111", "11111111", "11111111", "11111111");
    }

    static void promise40_thePiecesStay() {
        TapeRings x = Edges.madeBy(Edges.FULL);
        Edges.due("join()", x.join(), 4);
        Edges.due("pieces", x.count(3), 2);
        Edges.due("join() again", x.join(), 4);
        Edges.dueText("the row again", Check.row(x), "1 2 3 4");
    }
}
