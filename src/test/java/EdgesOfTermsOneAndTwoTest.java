/** Terms 1 and 2 at their edges: SOUNDS, STRIPS, SPLICES; MOTORS, RINGS, ROUNDS, WISHES. */
public final class EdgesOfTermsOneAndTwoTest {
    public static void main(String[] args) {
        Edges.run(EdgesOfTermsOneAndTwoTest.class);
    }

    private static void makes(String text, String inches) {
        TapeRings x = new TapeRings();
        Edges.due("splice() of " + text, Check.splice(x, text), inches.split(" ").length);
        Edges.dueText("the strip of " + text, Check.inHand(x), inches);
    }

    private static void answers(String text, int answer) {
        Edges.due("splice() of " + text, Check.splice(new TapeRings(), text), answer);
        if (answer < 0) {
            staysInHand(text, answer);
        }
    }

    /** THE TEXT is empty behind any splice; the STRIP IN HAND is another one only behind one that is read. */
    private static void staysInHand(String text, int answer) {
        TapeRings x = new TapeRings();
        Check.splice(x, "[19]04");
        Edges.due("splice() of " + text + " behind another", Check.splice(x, text), answer);
        Edges.dueText("the strip in hand behind " + text, Check.inHand(x), "514 0 16");
        Edges.due("signs behind " + text, x.count(6), 0);
    }

    // ---- term 1

    @Says({"SOUNDS are 1 .. 9.", "a digit 0 .. 9 (one INCH with that SOUND; 0: nothing);"})
    static void term1_soundsAre1To9() {
        makes("0", "0");
        makes("1", "2");
        makes("2", "4");
        makes("8", "256");
        makes("9", "512");
        answers("/", -1);
        answers(":", -1);
        TapeRings x = new TapeRings();
        Check.ring(x, "123", 0, 0);
        Edges.due("wish(0, bit 1)", x.wish(0, 2), true);
        Edges.due("wish(0, bit 9)", x.wish(0, 512), true);
        Edges.due("wish(0, bits 1 to 9)", x.wish(0, 1022), true);
        Edges.due("wish(0, none)", x.wish(0, 0), true);
        Edges.refusedFalse("wish(0, bit 0)", Edges.FULL, y -> Edges.of(y.wish(0, 1)));
        Edges.refusedFalse("wish(0, bit 10)", Edges.FULL, y -> Edges.of(y.wish(0, 1024)));
        Edges.refusedFalse("wish(0, bits 0 to 9)", Edges.FULL, y -> Edges.of(y.wish(0, 1023)));
    }

    @Says("A STRIP: a row of 1 .. 24 INCHES.")
    static void term1_aStripHas1To24Inches() {
        makes("7", "128");
        answers("(0*8*2)(0*7)", 23);
        answers("(0*8*2)(0*8)", 24);
        answers("(0*8*2)(0*9)", -100);
        answers("", -1);
    }

    @Says("SPLICES: a text of at most 60 signs tells a STRIP.")
    static void term1_aTextHas60SignsAtMost() {
        answers("1" + "~".repeat(58), 1);
        answers("1" + "~".repeat(59), 1);
        answers("1" + "~".repeat(60), -61);
        answers("1" + "~".repeat(61), -61);
        answers("1" + "~".repeat(99), -61);
    }

    static void term1_theFirst60OfMoreSignsCanGoOnOrEnd() {
        answers("1" + "~".repeat(58) + "*2", -61);
        answers("1" + "~".repeat(57) + "*22", -61);
        answers("(1" + "~".repeat(57) + "))", -61);
        answers("(1" + "~".repeat(58) + ")", -61);
        answers("[" + "1".repeat(59) + "]", -61);
        answers("[" + "1".repeat(58) + "]", 1);
        answers("1" + "~".repeat(58) + "/11", -61);
    }

    @Says("A text is none at the first sign that can't stand where it is.")
    static void term1_aWrongSignAmongThe60IsToldAheadOfTheOnesTooMany() {
        answers("1" + "~".repeat(57) + "x~", -59);
        answers("1" + "~".repeat(58) + "x", -60);
        answers("1" + "~".repeat(58) + "x~", -60);
        answers("1" + "~".repeat(58) + "x" + "~".repeat(40), -60);
        answers("1" + "~".repeat(59) + "x", -61);
        answers("x" + "~".repeat(99), -1);
    }

    @Says("ROW: a TERM, then any more TERMS, each of which may have /")
    static void term1_onlyTermsBehindTheFirstHaveASlash() {
        answers("/11", -1);
        answers("(/11)", -2);
        answers("1(/11)", -3);
        makes("1/12", "6");
        makes("(1/12)", "6");
        makes("1/1(2)", "6");
        makes("1/1[23]", "14");
    }

    @Says("each of which may have / and a digit 1 .. 9 ahead of it.")
    static void term1_behindASlashStandsADigit1To9() {
        answers("1//", -3);
        answers("1/0", -3);
        answers("1/01", -3);
        makes("1/12", "6");
        makes("1*9/9(2*9)", "6 6 6 6 6 6 6 6 6");
        answers("1/:", -3);
        answers("1/(1)", -3);
        answers("1/", -3);
    }

    @Says("a digit 1 .. 9 ahead of it.")
    static void term1_behindTheDigitOfASlashStandsATerm() {
        answers("1/1", -4);
        answers("1/1/1", -4);
        answers("1/1*2", -4);
        answers("1/1~", -4);
        answers("1/1)", -4);
        answers("(1/1)", -5);
        makes("1/10", "2");
    }

    @Says("* and a digit 2 .. 9 (so many times, one behind another),")
    static void term1_behindAStarStandsADigit2To9() {
        answers("1*", -3);
        answers("1*/", -3);
        answers("1*0", -3);
        answers("1*1", -3);
        makes("1*2", "2 2");
        makes("1*3", "2 2 2");
        makes("1*8", "2 2 2 2 2 2 2 2");
        makes("1*9", "2 2 2 2 2 2 2 2 2");
        answers("1*:", -3);
        answers("1**", -3);
        answers("1*(", -3);
    }

    @Says("or [ and one digit 1 .. 9 or more and ] (one INCH with all these);")
    static void term1_inBracketsStandsOneDigit1To9OrMore() {
        answers("[", -2);
        answers("[]", -2);
        answers("[0]", -2);
        answers("[/]", -2);
        answers("[:]", -2);
        makes("[1]", "2");
        makes("[9]", "512");
        makes("[19]", "514");
        makes("[123456789]", "1022");
        makes("[11]", "2");
        answers("[1", -3);
        answers("[10]", -3);
        answers("[1:", -3);
        answers("[1[", -3);
        answers("[1~", -3);
        answers("]", -1);
        answers("1]", -2);
    }

    @Says("or ( and a ROW and ) (at most 5 of them in one another).")
    static void term1_fiveParenthesesInOneAnotherAtMost() {
        answers("((((1))))", 1);
        answers("(((((1)))))", 1);
        answers("((((((1))))))", -6);
        answers("(((((((", -6);
        answers("(((((1)))))(((((2)))))", 2);
        answers("(((((1))))((((2)))))", 2);
        answers("(((((1))))(((((2))))))", -15);
        answers("(((((", -6);
    }

    @Says("or ( and a ROW and )")
    static void term1_parenthesesHoldARow() {
        answers("()", -2);
        answers("(", -2);
        answers("(1", -3);
        answers(")", -1);
        answers("1)", -2);
        answers("(1))", -4);
        answers("(1)()", -5);
        makes("(1)", "2");
        makes("(12/1(23)4)", "2 4 8 16");
    }

    @Says({"TERM: an ATOM, then any of: *", "each done on what stands ahead of it."})
    static void term1_starAndTildeAreDoneOnWhatStandsAheadOfThem() {
        makes("12*2", "2 4 4");
        makes("(12)*2", "2 4 2 4");
        makes("(123)~*2", "8 4 2 8 4 2");
        makes("(12)*2~", "4 2 4 2");
        makes("1(23)~", "2 8 4");
        makes("(1(23)~)~", "4 8 2");
        makes("[12]*2", "6 6");
        makes("1*2*3", "2 2 2 2 2 2");
    }

    @Says("~ (turned round: the last INCH first),")
    static void term1_turnedRoundIsTheLastInchFirst() {
        makes("1~", "2");
        makes("(12)~", "4 2");
        makes("(123)~", "8 4 2");
        makes("(1234)~", "16 8 4 2");
        makes("(123)~~", "2 4 8");
        makes("((0*8*2)(0*7)1)~", "2" + " 0".repeat(23));
    }

    @Says("with / d a TERM is laid over the last d INCHES:")
    static void term1_aSlashedTermGoesWithAllItsStarsAndTildes() {
        makes("12/13*2", "2 12 8");
        makes("12/2(34)~", "18 12");
        makes("12/23*2", "10 12");
        answers("12/23", -101);
    }

    @Says("with / d a TERM is laid over the last d INCHES: these have the SOUNDS of both.")
    static void term1_laidOverTheLastD() {
        makes("123/1(45)", "2 4 24 32");
        makes("123/2(45)", "2 20 40");
        makes("123/3(456)", "18 36 72");
        makes("12/2(345)", "10 20 32");
        makes("1/1(2/1(3/1(4/15)))", "62");
    }

    @Says("as soon as d is more than the INCHES that stand ahead in the ROW,")
    static void term1_overIfDIsMoreThanStandAheadInTheRow() {
        answers("12/1(345)", 4);
        answers("12/2(345)", 3);
        answers("12/3(345)", -101);
        answers("1/1(2*9)", 9);
        answers("1/2(2*9)", -101);
        answers("1*8/9(2*9)", -101);
        answers("1*9/9(2*9)", 9);
        answers("1*91/9(2*9)", 10);
    }

    @Says("or than those of the TERM, it is OVER")
    static void term1_overIfDIsMoreThanTheTermHas() {
        answers("123/1(45)", 4);
        answers("123/2(45)", 3);
        answers("123/3(45)", -101);
        answers("1*9/9(2*8)", -101);
        answers("1*9/9(2*9)", 9);
        answers("1*9/9(2*9)3", 10);
    }

    @Says("the INCHES that stand ahead in the ROW,")
    static void term1_aheadInTheRowIsWithinItsParentheses() {
        answers("123(45/2(67))", 5);
        answers("123(4/2(67))", -101);
        answers("123(4/1(67))", 5);
        answers("(123)/3(456)", 3);
        answers("(123)/4(4567)", -101);
    }

    @Says({"as soon as a TERM (behind each * and ~ of it),", "has more than 24 INCHES, it is LONG;"})
    static void term1_longBehindEachStar() {
        answers("(0*5*4)000", 23);
        answers("0*6*4", 24);
        answers("0*5*5", -100);
        answers("(0*6)*4", 24);
        answers("(0*5)*5", -100);
        answers("0*9*9~", -100);
        answers("0*9*2*2", -100);
        answers("((0*6*2)0)*2", -100);
        answers("(0*6*2)*2", 24);
    }

    @Says("or a ROW behind a TERM more, has more than 24 INCHES, it is LONG;")
    static void term1_longBehindATermMore() {
        answers("0*6*40", -100);
        answers("(0*6*4)0", -100);
        answers("(0*6*4)/11", 24);
        answers("0(0*6*4)", -100);
        answers("0*6*4/21", -101);
        answers("(0*6*4)/1(11)", -100);
        answers("(0*6*4)/2(11)", 24);
        answers("(0*6*4)/2(111)", -100);
    }

    @Says("what is in parentheses as it is met:")
    static void term1_longWithinParenthesesAsMet() {
        answers("(0*5*5)", -100);
        answers("((0*9*2)(0*6))", 24);
        answers("((0*9*2)(0*7))", -100);
        answers("1/1(0*5*5)", -100);
        answers("(0*5*5/12)", -100);
    }

    @Says("it is OVER (asked ahead of LONG).")
    static void term1_overIsAskedAheadOfLong() {
        answers("1/1(2*9*9)", -100);
        answers("1/2(2*9*9)", -101);
        answers("1/22*9*9", -101);
        answers("12/22*9*9", -100);
    }

    @Says("is put together from the left, what is in parentheses as it is met: as soon as")
    static void term1_theFirstFaultFromTheLeftIsTold() {
        answers("0*5*5/91", -100);
        answers("1/22(0*5*5)", -101);
        answers("(0*5*5)1/22", -100);
        answers("(1/22)(0*5*5)", -101);
        answers("(0*6*4)01/22", -100);
        answers("1/2(3(0*5*5))", -101);
        answers("11/2(3(0*5*5))", -100);
    }

    @Says("One that can be read whole is put together")
    static void term1_aWrongSignIsToldAheadOfLongAndOver() {
        answers("0*9*9x", -6);
        answers("1/92x", -5);
        answers("0*9*9(", -7);
        answers("1/92*", -6);
        answers("0*9*9" + "~".repeat(55), -100);
        answers("0*9*9" + "~".repeat(56), -61);
    }

    // ---- term 2

    private static TapeRings ringOf(String text) {
        TapeRings x = new TapeRings();
        Check.ring(x, text, 0, 0);
        return x;
    }

    @Says("MOTORS 0, 1:")
    static void term2_motorsAre0And1() {
        Edges.range("motor", 0, 1, Edges.FULL, (x, v) -> Edges.of(x.motor(v, 9, 4)), 0);
        Edges.rangeThrown("way", 0, 1, Edges.FULL, (x, v) -> x.way(v, 9));
        Edges.range("ring", 0, 1, Edges.FULL, (x, v) -> x.ring(v, 0));
        Edges.range("set", 0, 1, Edges.FULL, (x, v) -> x.set(0, 0, v));
    }

    @Says("SPEED 1 at first;")
    static void term2_speedIs1AtFirst() {
        TapeRings x = new TapeRings();
        for (int t : new int[] {0, 1, 2, 4999, 5000, 5001, 1000000000}) {
            Edges.due("way(0, " + t + ")", x.way(0, t), t);
            Edges.due("way(1, " + t + ")", x.way(1, t), t);
        }
    }

    @Says("told from a TICK (0 .. 5000) on")
    static void term2_speedsAreToldFromTicks0To5000On() {
        Edges.range("motor's tick", 0, 5000, Edges.FULL, (x, v) -> Edges.of(x.motor(0, v, 4)), 0);
        TapeRings x = new TapeRings();
        x.motor(0, 0, 3);
        Edges.due("way to 1 with 3 from 0 on", x.way(0, 1), 3);
        x.motor(1, 5000, 3);
        Edges.due("way to 5000 with 3 from 5000 on", x.way(1, 5000), 5000);
        Edges.due("way to 5001 with 3 from 5000 on", x.way(1, 5001), 5003);
    }

    @Says("on another one (-9 .. 9).")
    static void term2_speedsAreFrom9BelowTo9() {
        Edges.range("motor's speed", -9, 9, Edges.FULL, (x, v) -> Edges.of(x.motor(0, 7, v)), 0);
        for (int speed = -9; speed <= 9; speed++) {
            TapeRings x = new TapeRings();
            x.motor(1, 0, speed);
            Edges.due("way to 7 at " + speed, x.way(1, 7), 7 * speed);
        }
    }

    @Says("WAY of a MOTOR to TICK t: the sum of its SPEEDS at TICKS 0 .. t - 1.")
    static void term2_theWayIsTheSumOfTheTicksAhead() {
        TapeRings x = new TapeRings();
        x.motor(0, 3, 5);
        x.motor(0, 4, -7);
        long[] due = {0, 1, 2, 3, 8, 1, -6};
        for (int t = 0; t < due.length; t++) {
            Edges.due("way(0, " + t + ")", x.way(0, t), due[t]);
        }
    }

    @Says("STEADY: the greatest TICK told for a MOTOR")
    static void term2_steadyIsTheGreatestTickToldNotTheLatest() {
        TapeRings x = ringOf("1000");
        x.motor(0, 6, 0);
        x.motor(0, 2, 1);
        Edges.due("round by the speed from the greatest tick on", x.of(0, 4), 1);
        x.motor(0, 7, 2);
        Edges.due("round by the speed from a greater one on", x.of(0, 4), 2);
        x.wish(0, 2);
        x.motor(0, 8, 0);
        Edges.due("often() from 8 on at way 8", x.often(), 1);
        x.motor(0, 5, 0);
        Edges.due("often() from 8 on at way 7", x.often(), 0);
    }

    @Says("RINGS 0 .. (at most 4):")
    static void term2_fourRingsAtMost() {
        TapeRings x = new TapeRings();
        Check.splice(x, "12");
        for (int ring = 0; ring < 4; ring++) {
            Edges.due("ring " + ring, x.ring(ring & 1, 0), ring);
        }
        Edges.refused("a ring more than 4", EdgesOfTermsOneAndTwoTest::fourRings, y -> y.ring(0, 0));
    }

    private static void fourRings(TapeRings x) {
        Edges.FULL.on(x);
        x.ring(0, 0);
        x.ring(1, 2);
    }

    @Says("HEADS: a set of offsets 0 .. 23 (0 alone at first).")
    static void term2_offsetsAre0To23AndAtFirst0Alone() {
        Edges.range("head", 0, 23, Edges.FULL, (x, v) -> x.head(0, v, true));
        TapeRings x = ringOf("12");
        Edges.due("heads at first", x.of(0, 3), 1);
        Edges.due("a head at 23", x.head(0, 23, true), 2);
        Edges.due("heads then", x.of(0, 3), 1 + (1 << 23));
    }

    @Says("START and WAY and o, by LENGTH (from 0 on).")
    static void term2_aHeadIsByLengthFrom0On() {
        TapeRings x = ringOf("123");
        x.motor(0, 0, -1);
        int[] due = {2, 8, 4, 2, 8, 4, 2};
        for (int t = 0; t < due.length; t++) {
            Edges.due("heard backwards at " + t, x.heard(0, t), due[t]);
        }
        x.set(0, 1, 2);
        Edges.due("start at the last inch", x.heard(0, 0), 8);
        x.motor(0, 0, 1);
        Edges.due("one behind the last inch", x.heard(0, 1), 2);
        x.head(0, 23, true);
        x.head(0, 0, false);
        Edges.due("offset 23 of 3 from inch 2 on", x.heard(0, 0), 4);
    }

    @Says("HEARD of a RING: all SOUNDS under its HEADS;")
    static void term2_heardIsOfAllHeads() {
        TapeRings x = ringOf("1234");
        x.head(0, 1, true);
        x.head(0, 3, true);
        Edges.due("heard at 0", x.heard(0, 0), 2 + 4 + 16);
        Edges.due("heard at 1", x.heard(0, 1), 4 + 8 + 2);
        x.head(0, 5, true);
        Edges.due("5 is where 1 is", x.heard(0, 0), 2 + 4 + 16);
    }

    @Says("HEARD in all: of all RINGS.")
    static void term2_heardInAllIsOfAllRings() {
        TapeRings x = new TapeRings();
        Edges.due("without rings", x.heard(-1, 0), 0);
        Check.ring(x, "1", 0, 0);
        Edges.due("of one", x.heard(-1, 0), 2);
        Check.ring(x, "2", 0, 0);
        Check.ring(x, "3", 1, 0);
        Check.ring(x, "4", 1, 0);
        Edges.due("of four", x.heard(-1, 0), 30);
        Edges.due("of the last alone", x.heard(3, 0), 16);
    }

    /** As told: TICK by TICK behind STEADY, until the WAY made is a multiple. */
    private static int roundOf(int length, int speed) {
        int way = speed;
        int ticks = 1;
        while (way % length != 0) {
            way += speed;
            ticks++;
        }
        return ticks;
    }

    @Says({"ROUND of a RING: in how many TICKS (1 or more) behind STEADY", "first makes the WAY a multiple of LENGTH;"})
    static void term2_aRoundIs1TickOrMore() {
        for (int length = 1; length <= 24; length++) {
            TapeRings x = ringOf("0".repeat(length));
            for (int speed = -9; speed <= 9; speed++) {
                x.motor(0, 4, speed);
                Edges.due("round of " + length + " at " + speed, x.of(0, 4), roundOf(length, speed));
            }
        }
    }

    @Says("behind STEADY its MOTOR first makes the WAY a multiple of LENGTH;")
    static void term2_aRoundIsOfTheOwnMotorBehindSteady() {
        TapeRings x = ringOf("0*6");
        x.motor(1, 9, 3);
        Edges.due("the other motor", x.of(0, 4), 6);
        x.motor(0, 4, 2);
        Edges.due("its own motor", x.of(0, 4), 3);
        x.motor(0, 3, 5);
        Edges.due("a speed ahead of steady", x.of(0, 4), 3);
        x.set(0, 0, 1);
        Edges.due("run by the other one", x.of(0, 4), 2);
    }

    @Says("(1 without RINGS).")
    static void term2_allIs1WithoutRings() {
        TapeRings x = new TapeRings();
        Edges.due("all() without rings", x.all(), 1);
        Check.ring(x, "1", 0, 0);
        Edges.due("all() of one inch", x.all(), 1);
        Check.ring(x, "12", 0, 0);
        Edges.due("all() of 1, 2", x.all(), 2);
        x.clear();
        Edges.due("all() behind clear()", x.all(), 1);
    }

    @Says("ALL: the least TICKS that are multiples of all ROUNDS")
    static void term2_allIsTheLeastOfTheMultiples() {
        TapeRings x = ringOf("0*4");
        Check.ring(x, "0*6", 1, 0);
        Edges.due("all() of 4, 6", x.all(), 12);
        Check.ring(x, "0*8", 1, 0);
        Edges.due("all() of 4, 6, 8", x.all(), 24);
        Check.ring(x, "0*7", 1, 0);
        Edges.due("all() of 4, 6, 8, 7", x.all(), 168);
        x.clear();
        for (int length : new int[] {24, 23, 19, 17}) {
            Check.ring(x, "0".repeat(length), 0, 0);
        }
        Edges.due("all() of 24, 23, 19, 17", x.all(), 24L * 23 * 19 * 17);
    }

    @Says("A WISH: for each RING SOUNDS as bits (0 at first).")
    static void term2_aWishIs0AtFirst() {
        TapeRings x = ringOf("000");
        Edges.due("its wish", x.of(0, 5), 0);
        Edges.due("meets(0)", x.meets(0), 0);
        Edges.due("often()", x.often(), 3);
    }

    @Says("It MEETS at a TICK at which each RING's HEARD has all of its.")
    static void term2_meetsIfEachRingHasAllOfItsOwn() {
        TapeRings x = ringOf("[12]1200");
        Check.ring(x, "3000", 0, 0);
        x.wish(0, 6);
        Edges.due("both of one ring", x.meets(1), 5);
        x.wish(1, 8);
        Edges.due("both rings", x.meets(1), 20);
        x.wish(1, 2);
        Edges.due("what another ring has is not its own", x.meets(0), -1);
        x.wish(1, 0);
        x.wish(0, 2);
        Edges.due("more than the wish meets it too", x.meets(5), 5);
    }
}
