/** Promises 1 to 5 at their edges: a new object, THE TEXT, the STRIP IN HAND. */
public final class EdgesOfSplicesTest {
    public static void main(String[] args) {
        Edges.run(EdgesOfSplicesTest.class);
    }

    // ---- promise 1

    @Says("nothing spliced, marked, kept.")
    static void promise1_nothingIsSplicedMarkedOrKept() {
        TapeRings x = new TapeRings();
        for (int what = 0; what <= 7; what++) {
            Edges.due("count(" + what + ")", x.count(what), 0);
        }
        Edges.due("kept()", x.kept(), 0);
        Edges.due("hand(0)", x.hand(0), -1);
        Edges.due("inch(0, 0)", x.inch(0, 0), -1);
        Edges.due("known(0, 999)", x.known(0, 999), -1);
        Edges.due("fetch(0)", x.fetch(0), -1);
        Edges.due("edits(0, 0)", x.edits(0, 0), -1);
        Edges.due("mended(0)", x.mended(0), -1);
        Edges.due("splice()", x.splice(), -1);
        Edges.due("clear()", x.clear(), 0);
        Edges.due("burn()", x.burn(), 0);
        Edges.due("wipe()", x.wipe(), 0);
        Edges.noSuch("row(0)", Edges.NEW, y -> y.row(0));
        Edges.noSuch("of(0, 0)", Edges.NEW, y -> y.of(0, 0));
    }

    @Says("As told;")
    static void promise1_numbersAreAsTold() {
        TapeRings x = new TapeRings();
        Edges.due("NONE", TapeRings.NONE, -1);
        Edges.due("way(0, 9)", x.way(0, 9), 9);
        Edges.due("way(1, 9)", x.way(1, 9), 9);
        Edges.due("all()", x.all(), 1);
        Edges.due("stop(1)", x.stop(1), 0);
        Check.ring(x, "[123456789]", 0, 0);
        Edges.due("out(0) of nine weights of 100", x.out(0), 900);
        Edges.due("out(1) without gains", x.out(1), 0);
        for (int sound = 1; sound <= 9; sound++) {
            Edges.due("weight(" + sound + ", 0)", x.weight(sound, 0), 100);
        }
    }

    static void promise1_objectsAreApart() {
        TapeRings x = Edges.madeBy(Edges.FULL);
        TapeRings y = new TapeRings();
        for (int part = 0; part < Seen.PARTS; part++) {
            TapeRings z = new TapeRings();
            Edges.FULL.on(x);
            Edges.dueText("part " + part + " of one made ahead", Seen.of(z, part), Seen.of(new TapeRings(), part));
        }
        Edges.due("rings of the one", x.count(0), 4);
        Edges.due("rings of the other", y.count(0), 0);
        Edges.due("the strip in hand of the other", y.hand(0), -1);
    }

    // ---- promise 2

    private static void ofSigns(TapeRings x, int n) {
        for (int i = 0; i < n; i += 4) {
            x.sign(0x317E7E7E);
        }
        x.end(n);
    }

    @Says({"Four signs come", "of v the highest byte first:"})
    static void promise2_fourSignsTheHighestByteFirst() {
        TapeRings x = new TapeRings();
        Edges.due("sign", x.sign(0x31323334), 4);
        Edges.due("splice()", x.splice(), 4);
        Edges.dueText("its strip", Check.inHand(x), "2 4 8 16");
        x.sign(0x28317E29);
        Edges.due("sign more", x.sign(0x2A322F32), 8);
        x.end(6);
        Edges.due("splice() of 6", x.splice(), 2);
    }

    @Says({"Four signs come behind THE TEXT,", "how many it has."})
    static void promise2_signsComeBehindTheText() {
        TapeRings x = new TapeRings();
        x.sign(0x31323334);
        x.end(1);
        Edges.due("behind 1", x.sign(0x35363738), 5);
        Edges.due("behind 5", x.sign(0x39303132), 9);
        x.splice();
        Edges.dueText("its strip", Check.inHand(x), "2 32 64 128 256 512 0 2 4");
        Edges.due("behind splice()", x.sign(0x31323334), 4);
    }

    static void promise2_aSignIsAnyByte() {
        for (int b : new int[] {0, 1, 0x2E, 0x3A, 0x7F, 0x80, 0xB1, 0xFF}) {
            TapeRings x = new TapeRings();
            Edges.due("sign of byte " + b, x.sign(b << 24 | 0x323232), 4);
            Edges.due("splice() of byte " + b, x.splice(), -1);
            x.sign(0x31323200 | b);
            Edges.due("splice() of byte " + b + " as the last", x.splice(), -4);
        }
    }

    @Says("Refused: there would be more than 100.")
    static void promise2_hundredSignsAtMost() {
        for (int n = 93; n <= 96; n++) {
            TapeRings x = new TapeRings();
            ofSigns(x, n);
            Edges.due("sign behind " + n, x.sign(0), n + 4);
        }
        for (int n = 97; n <= 100; n++) {
            int signs = n;
            Edges.refused("sign behind " + n, x -> ofSigns(x, signs), x -> x.sign(0x31313131));
        }
        TapeRings x = new TapeRings();
        for (int n = 1; n <= 25; n++) {
            Edges.due("sign " + n, x.sign(-1), 4 * n);
        }
        Edges.due("sign 26", x.sign(-1), -1);
    }

    // ---- promise 3

    @Says("THE TEXT has its first n signs alone: true;")
    static void promise3_theFirstNSignsStay() {
        for (int n = 0; n <= 8; n++) {
            TapeRings x = new TapeRings();
            x.sign(0x31323334);
            x.sign(0x35363738);
            Edges.due("end(" + n + ") of 8", x.end(n), true);
            Edges.due("signs then", x.count(6), n);
            Edges.due("splice() then", x.splice(), n == 0 ? -1 : n);
            Edges.due("its last inch", x.hand(n - 1), n == 0 ? -1 : 1 << n);
        }
    }

    @Says("false if it has not so many, or n is below 0.")
    static void promise3_falseIfItHasNotSoManyOrBelow0() {
        Edges.range("end", 0, 3, Edges.FULL, (x, v) -> Edges.of(x.end(v)), 0);
        Edges.range("end of an empty one", 0, 0, Edges.NEW, (x, v) -> Edges.of(x.end(v)), 0);
        Edges.range("end of 100", 0, 100, x -> ofSigns(x, 100), (x, v) -> Edges.of(x.end(v)), 0);
        TapeRings x = new TapeRings();
        x.sign(0);
        x.end(3);
        Edges.due("what is gone is gone", x.end(4), false);
    }

    // ---- promise 4

    private static void twoInHand(TapeRings x) {
        Check.splice(x, "[12]3");
    }

    private static void splices(String text, int answer) {
        TapeRings x = Edges.madeBy(EdgesOfSplicesTest::twoInHand);
        Edges.due("splice() of '" + text + "'", Check.splice(x, text), answer);
        Edges.due("signs behind '" + text + "'", x.count(6), 0);
        Edges.due("inches behind '" + text + "'", x.count(7), answer < 0 ? 2 : answer);
        if (answer < 0) {
            Edges.dueText("the strip behind '" + text + "'", Check.inHand(x), "6 8");
        }
    }

    @Says("is a STRIP: the STRIP IN HAND: how many INCHES.")
    static void promise4_howManyInchesFrom1To24() {
        splices("1", 1);
        splices("12", 2);
        splices("1*8*3", 24);
        splices("1*8*2(1*7)", 23);
        splices("1*8*3/11", 24);
    }

    @Says("-1 - p: the sign at p can't stand there")
    static void promise4_aSignThatCantStandThereIsTold() {
        splices("x", -1);
        splices("1x", -2);
        splices("12x", -3);
        splices("1 ", -2);
        splices("1" + "~".repeat(57) + "x", -59);
        splices("1" + "~".repeat(58) + "x", -60);
    }

    @Says("(its end, if it ends too early;")
    static void promise4_itsEndIfItEndsTooEarly() {
        splices("", -1);
        splices("(", -2);
        splices("(1", -3);
        splices("[", -2);
        splices("[1", -3);
        splices("1*", -3);
        splices("1/", -3);
        splices("1/1", -4);
        splices("(" + "1".repeat(22) + "~".repeat(36), -60);
        splices("(" + "1".repeat(22) + "~".repeat(37), -61);
        splices("1" + "~".repeat(58) + "*", -61);
    }

    @Says("60, if it has more and the first 60 could go on or end);")
    static void promise4_sixtyIfItHasMore() {
        splices("1" + "~".repeat(59), 1);
        splices("1" + "~".repeat(60), -61);
        splices("(" + "~".repeat(60), -2);
        splices("1" + "~".repeat(58) + "*x", -61);
        splices("1" + "~".repeat(57) + "*x2", -60);
        splices("1".repeat(100), -61);
        splices("1".repeat(60), -100);
    }

    @Says("-100 LONG;")
    static void promise4_longIs100Below0() {
        splices("1*8*3", 24);
        splices("1*8*31", -100);
        splices("1*5*5", -100);
        splices("1".repeat(24), 24);
        splices("1".repeat(25), -100);
    }

    @Says("-101 OVER")
    static void promise4_overIs101Below0() {
        splices("12/2(34)", 2);
        splices("12/3(345)", -101);
        splices("123/3(45)", -101);
        splices("1/21", -101);
    }

    @Says("THE TEXT, which is empty then,")
    static void promise4_theTextIsEmptyThenAndCanBeginAgain() {
        TapeRings x = new TapeRings();
        x.sign(0x31312A39);
        Edges.due("splice()", x.splice(), 10);
        Edges.due("end(1)", x.end(1), false);
        Edges.due("splice() of what is gone", x.splice(), -1);
        Edges.due("the strip stays", x.count(7), 10);
        x.sign(0x78787878);
        Edges.due("splice() of wrong signs", x.splice(), -1);
        Edges.due("sign behind that", x.sign(0), 4);
    }

    @Says("THE TEXT, which is empty then, is a STRIP:")
    static void promise4_aTextBehindOneThatIsNoneIsReadAnew() {
        String[] none = {"", "(", "(((((", "((((((", "1)", "1/1", "1*", "[1", "1*5*5", "(((1*5*5)))", "1*8*311",
            "1*8*31/12", "1/22", "((12/3(345)))", "1(2(3/2(45)", "123/3(45)", "[12]*9*9", "x"};
        String[] read = {"9", "12", "(((((1)))))", "1*8*3", "12/2(34)", "[45]6", "(12)~"};
        String[] strips = {"512", "2 4", "2", "2" + " 2".repeat(23), "10 20", "48 64", "4 2"};
        for (String n : none) {
            for (int i = 0; i < read.length; i++) {
                TapeRings x = new TapeRings();
                Edges.due("splice() of '" + n + "' is below 0", Check.splice(x, n) < 0, true);
                Check.splice(x, read[i]);
                Edges.dueText("the strip of " + read[i] + " behind '" + n + "'", Check.inHand(x), strips[i]);
                Check.splice(x, n);
                Edges.due("six in one another behind '" + n + "'", Check.splice(x, "((((((1))))))"), -6);
            }
        }
    }

    static void promise4_ringsAndVersionsKeepTheirStrips() {
        TapeRings x = Edges.madeBy(Edges.FULL);
        Check.splice(x, "0*8*3");
        Edges.due("an inch of a ring", x.inch(0, 2), 24);
        Edges.due("edits of the versions", x.edits(0, 0), 0);
        x.fetch(0);
        Edges.dueText("a version", Check.inHand(x), "2 4 24 0 32");
    }

    // ---- promise 5

    @Says("INCH i of the STRIP IN HAND, as bits;")
    static void promise5_inchesFrom0ToTheLast() {
        Edges.range("hand", 0, 3, Edges.FULL, TapeRings::hand);
        Edges.range("hand of one inch", 0, 0, x -> Check.splice(x, "7"), TapeRings::hand);
        Edges.range("hand of 24", 0, 23, x -> Check.splice(x, "7*8*3"), TapeRings::hand);
        TapeRings x = Edges.madeBy(Edges.FULL);
        Edges.dueText("all of them", Check.inHand(x), "514 4 256 0");
    }

    @Says("NONE: none such (it is empty at first).")
    static void promise5_itIsEmptyAtFirst() {
        for (int i : new int[] {Integer.MIN_VALUE, -1, 0, 1, 23, 24, Integer.MAX_VALUE}) {
            Edges.refused("hand(" + i + ")", Edges.NEW, x -> x.hand(i));
        }
    }

    @Says("NONE: none such")
    static void promise5_aShorterOneHasNoMoreOfTheLongerOne() {
        TapeRings x = new TapeRings();
        Check.splice(x, "12345");
        Check.splice(x, "67");
        Edges.due("hand(1)", x.hand(1), 128);
        Edges.due("hand(2)", x.hand(2), -1);
    }

    static void promise5_askingChangesNothing() {
        Edges.asks("hand(0)", Edges.FULL, x -> x.hand(0));
    }
}
