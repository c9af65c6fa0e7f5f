/** Promises 2 to 5: THE TEXT and the STRIP IN HAND. */
public final class SplicesTest {
    private static final Check check = new Check("SplicesTest");

    public static void main(String[] args) {
        signs();
        ends();
        terms();
        wrongSigns();
        tooManySigns();
        longAndOver();
        inHand();
        check.end();
    }

    private static void signs() {
        TapeRings x = new TapeRings();
        for (int i = 1; i <= 25; i++) {
            check.due(2, "sign " + i, x.sign(0x31313131), 4 * i);
        }
        check.due(2, "sign beyond 100", x.sign(0), -1);
        check.due(2, "count(6) after that", x.count(6), 100);
        x.end(97);
        check.due(2, "sign behind 97", x.sign(0), -1);
        x.end(96);
        check.due(2, "sign behind 96", x.sign(0), 100);
        x = new TapeRings();
        x.sign(0x31323334);
        x.splice();
        check.dueText(2, "the highest byte first", Check.inHand(x), "2 4 8 16");
        x.sign(0xFF323334);
        check.due(2, "a sign above 127 is no digit", x.splice(), -1);
        x.sign(0x31B23334);
        check.due(2, "nor is its lower half", x.splice(), -2);
    }

    private static void ends() {
        TapeRings x = new TapeRings();
        check.due(3, "end(0) of none", x.end(0), true);
        check.due(3, "end(1) of none", x.end(1), false);
        x.sign(0x31323334);
        check.due(3, "end(5) of 4", x.end(5), false);
        check.due(3, "end(-1)", x.end(-1), false);
        check.due(3, "end(MIN)", x.end(Integer.MIN_VALUE), false);
        check.due(3, "signs after refused ends", x.count(6), 4);
        check.due(3, "end(4) of 4", x.end(4), true);
        check.due(3, "end(3)", x.end(3), true);
        check.due(3, "signs then", x.count(6), 3);
        x.sign(0x35363738);
        x.splice();
        check.dueText(3, "first n stay", Check.inHand(x), "2 4 8 32 64 128 256");
    }

    private static void makes(String text, String inches) {
        TapeRings x = new TapeRings();
        int n = inches.split(" ").length;
        check.due(4, "splice of " + text, Check.splice(x, text), n);
        check.dueText(4, "strip of " + text, Check.inHand(x), inches);
        check.due(4, "signs behind " + text, x.count(6), 0);
    }

    private static void terms() {
        makes("0", "0");
        makes("9", "512");
        makes("[12]", "6");
        makes("[9]", "512");
        makes("[11]", "2");
        makes("1*2~3", "2 2 8");
        makes("(12)~", "4 2");
        makes("(12)*3~*2", "4 2 4 2 4 2 4 2 4 2 4 2");
        makes("(12)~*2", "4 2 4 2");
        makes("(12)~~", "2 4");
        makes("12/13", "2 12");
        makes("12/1(34)", "2 12 16");
        makes("12/2(34)", "10 20");
        makes("123/2(45)~6", "2 36 24 64");
        makes("1/1(2/1(3/1(4/1(5/16))))", "126");
        makes("(((((1)))))", "2");
        makes("((1)(2))*2", "2 4 2 4");
        makes("[123456789]*9", "1022 1022 1022 1022 1022 1022 1022 1022 1022");
        makes("1*9/9(2*9)", "6 6 6 6 6 6 6 6 6");
        makes("1*8*3", "2 2 2 2 2 2 2 2 2 2 2 2 2 2 2 2 2 2 2 2 2 2 2 2");
        makes("1*9*2/2(2*8)", "2 2 2 2 2 2 2 2 2 2 2 2 2 2 2 2 6 6 4 4 4 4 4 4");
    }

    private static void wrong(String text, int answer) {
        TapeRings x = new TapeRings();
        Check.splice(x, "37");
        check.due(4, "splice of '" + text + "'", Check.splice(x, text), answer);
        check.dueText(4, "strip behind '" + text + "'", Check.inHand(x), "8 128");
        check.due(4, "signs behind '" + text + "'", x.count(6), 0);
    }

    private static void wrongSigns() {
        wrong("", -1);
        wrong("a", -1);
        wrong("*2", -1);
        wrong("~", -1);
        wrong("/11", -1);
        wrong(")", -1);
        wrong("]", -1);
        wrong("1]", -2);
        wrong("1)", -2);
        wrong("(1))", -4);
        wrong("(", -2);
        wrong("()", -2);
        wrong("(1", -3);
        wrong("(/11)", -2);
        wrong("[", -2);
        wrong("[]", -2);
        wrong("[0]", -2);
        wrong("[10]", -3);
        wrong("[1", -3);
        wrong("[1(", -3);
        wrong("1*", -3);
        wrong("1*1", -3);
        wrong("1*0", -3);
        wrong("1**", -3);
        wrong("1/", -3);
        wrong("1/0", -3);
        wrong("1/1", -4);
        wrong("1/1/", -4);
        wrong("1/1)", -4);
        wrong("1/1~", -4);
        wrong("1/1*", -4);
        wrong("1~2:", -4);
        wrong("1 2", -2);
        wrong("((((((1))))))", -6);
        wrong("(((((1)))))(((((([", -17);
        wrong("1*9*9*9*9x", -10);
        wrong("1/9(2)x", -7);
    }

    private static String many(String part, int times) {
        return part.repeat(times);
    }

    private static void tooManySigns() {
        check.due(4, "60 signs", Check.splice(new TapeRings(), "1" + many("~", 59)), 1);
        wrong("1" + many("~", 60), -61);
        wrong("1" + many("~", 99), -61);
        wrong(many("(", 5) + "1" + many("~", 54), -61);
        wrong("1" + many("~", 58) + "*" + "2", -61);
        wrong("1" + many("~", 59) + "x", -61);
        wrong("1" + many("~", 58) + "x" + "2", -60);
        wrong("x" + many("~", 70), -1);
        wrong(many("1", 61), -61);
        wrong(many("1", 59) + "*", -61);
        wrong("(" + many("1", 59), -61);
    }

    private static void longAndOver() {
        wrong(many("1", 25), -100);
        wrong("1*5*5", -100);
        wrong("1*9*3", -100);
        wrong("(1*9*2)(1*7)", -100);
        wrong("1*9*2/1(1*8)", -100);
        wrong("(1*5*5/12)", -100);
        wrong("1/22", -101);
        wrong("1/2(22)", -101);
        wrong("11/22", -101);
        wrong("1*9/9(2*8)", -101);
        wrong("1*9*2(1/23*9*9)", -101);
        wrong("1/2(2*9*9)", -101);
        wrong("1*9*9/92", -100);
        wrong("1*9*2*1", -7);
        wrong("1*9*2(1*7)/92", -100);
        wrong("1*8*3/92", -101);
        wrong("111(1/2(11))", -101);
        check.due(4, "24 inches and all laid over", Check.splice(new TapeRings(), "1*8*3/9(2*9)"), 24);
    }

    private static void inHand() {
        TapeRings x = new TapeRings();
        check.due(5, "hand(0) at first", x.hand(0), -1);
        check.due(5, "count(7) at first", x.count(7), 0);
        Check.splice(x, "1[29]0");
        check.due(5, "hand(0)", x.hand(0), 2);
        check.due(5, "hand(1)", x.hand(1), 516);
        check.due(5, "hand(2)", x.hand(2), 0);
        check.due(5, "hand(3)", x.hand(3), -1);
        check.due(5, "hand(-1)", x.hand(-1), -1);
        check.due(5, "hand(MAX)", x.hand(Integer.MAX_VALUE), -1);
        Check.splice(x, "5");
        check.due(5, "hand(1) of a shorter one", x.hand(1), -1);
    }
}
