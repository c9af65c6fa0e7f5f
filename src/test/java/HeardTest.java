/** Promises 15 to 20: what is HEARD, and when the WISH MEETS. */
public final class HeardTest {
    private static final Check check = new Check("HeardTest");

    public static void main(String[] args) {
        ways();
        heard();
        allTicks();
        wishes();
        meetings();
        lateMeetings();
        howOften();
        check.end();
    }

    private static void ways() {
        TapeRings x = new TapeRings();
        check.due(15, "way(0, 0)", x.way(0, 0), 0);
        check.due(15, "way(0, 1000000000)", x.way(0, 1000000000), 1000000000);
        x.motor(1, 1000, 9);
        check.due(15, "way beyond an int", x.way(1, 1000000000), 1000L + 999999000L * 9);
        x.motor(1, 0, -9);
        x.motor(1, 1000, -9);
        check.due(15, "way below an int", x.way(1, 1000000000), -9000000000L);
        for (int tick : new int[] {-1, 1000000001, Integer.MIN_VALUE, Integer.MAX_VALUE}) {
            check.throwsNoSuch(15, "way(0, " + tick + ")", () -> x.way(0, tick));
        }
        for (int motor : new int[] {-1, 2}) {
            check.throwsNoSuch(15, "way(" + motor + ", 0)", () -> x.way(motor, 0));
        }
    }

    private static void heard() {
        TapeRings x = new TapeRings();
        check.due(16, "heard in all without rings", x.heard(-1, 7), 0);
        Check.ring(x, "123", 0, 2);
        Check.ring(x, "4[56]", 1, 0);
        x.motor(1, 1, -1);
        int[] first = {8, 2, 4, 8, 2};
        int[] second = {16, 96, 16, 96, 16};
        for (int t = 0; t < 5; t++) {
            check.due(16, "heard(0, " + t + ")", x.heard(0, t), first[t]);
            check.due(16, "heard(1, " + t + ")", x.heard(1, t), second[t]);
            check.due(16, "heard(NONE, " + t + ")", x.heard(-1, t), first[t] | second[t]);
        }
        check.due(16, "heard(0, 2^63-1)", x.heard(0, Long.MAX_VALUE), first[(int) (Long.MAX_VALUE % 3)]);
        check.due(16, "heard(1, 2^63-1)", x.heard(1, Long.MAX_VALUE), 96);
        x.motor(0, 5000, -9);
        x.motor(0, 0, -9);
        x.set(0, 1, 0);
        check.due(16, "backwards for ever", x.heard(0, Long.MAX_VALUE - 1), 2);
        check.due(16, "heard(0, -1)", x.heard(0, -1), -1);
        check.due(16, "heard(NONE, -1)", x.heard(-1, -1), -1);
        check.due(16, "heard(2, 0)", x.heard(2, 0), -1);
        check.due(16, "heard(-2, 0)", x.heard(-2, 0), -1);
        check.due(16, "heard(0, MIN)", x.heard(0, Long.MIN_VALUE), -1);
    }

    private static void allTicks() {
        TapeRings x = new TapeRings();
        check.due(17, "all() of none", x.all(), 1);
        Check.ring(x, "0*4", 0, 0);
        check.due(17, "all() of 4", x.all(), 4);
        Check.ring(x, "0*6", 1, 0);
        check.due(17, "all() of 4, 6", x.all(), 12);
        Check.ring(x, "0*9", 0, 0);
        check.due(17, "all() of 4, 6, 9", x.all(), 36);
        x.motor(1, 10, 3);
        check.due(17, "all() of 4, 2, 9", x.all(), 36);
        x.motor(0, 10, -6);
        check.due(17, "all() of 2, 2, 3", x.all(), 6);
        x.motor(0, 10, 0);
        check.due(17, "all() of 1, 2, 1", x.all(), 2);
        x.clear();
        for (int length : new int[] {18, 19, 21, 21}) {
            Check.ring(x, "0".repeat(length), 0, 0);
        }
        check.due(17, "all() of 18, 19, 21, 21", x.all(), 126 * 19);
    }

    private static void wishes() {
        TapeRings x = new TapeRings();
        check.due(18, "wish(0, 2) without rings", x.wish(0, 2), false);
        Check.ring(x, "123", 0, 0);
        check.due(18, "wish(0, 1022)", x.wish(0, 1022), true);
        check.due(18, "of(0, 5)", x.of(0, 5), 1022);
        check.due(18, "wish(0, 0)", x.wish(0, 0), true);
        check.due(18, "of(0, 5) then", x.of(0, 5), 0);
        x.wish(0, 8);
        for (int bits : new int[] {1, 3, 1024, 1026, -1, Integer.MIN_VALUE}) {
            check.due(18, "wish(0, " + bits + ")", x.wish(0, bits), false);
        }
        check.due(18, "wish(1, 2)", x.wish(1, 2), false);
        check.due(18, "wish(-1, 2)", x.wish(-1, 2), false);
        check.due(18, "of(0, 5) after refused ones", x.of(0, 5), 8);
    }

    private static void meetings() {
        TapeRings x = new TapeRings();
        check.due(19, "meets(5) without rings", x.meets(5), 5);
        Check.ring(x, "1020", 0, 0);
        Check.ring(x, "100", 1, 0);
        check.due(19, "meets(5) without wishes", x.meets(5), 5);
        x.wish(0, 4);
        x.wish(1, 2);
        check.due(19, "meets(0)", x.meets(0), 6);
        check.due(19, "meets(6)", x.meets(6), 6);
        check.due(19, "meets(7)", x.meets(7), 18);
        check.due(19, "meets(2^60)", x.meets(1L << 60), (1L << 60) + 2);
        check.due(19, "meets(2^60+1)", x.meets((1L << 60) + 1), -1);
        check.due(19, "meets(-1)", x.meets(-1), -1);
        check.due(19, "meets(MIN)", x.meets(Long.MIN_VALUE), -1);
        x.wish(1, 4);
        check.due(19, "meets(0) of one that is never", x.meets(0), -1);
        x.wish(1, 2);
        x.motor(1, 6, 0);
        check.due(19, "meets(0) at the steady tick", x.meets(0), 6);
        check.due(19, "meets(7) of one that stands", x.meets(7), 10);
        x.motor(1, 7, 0);
        x.motor(1, 6, 1);
        check.due(19, "meets(0) ahead of the steady tick", x.meets(0), 6);
        check.due(19, "meets(7) not behind it", x.meets(7), -1);
        check.due(20, "often() not behind it", x.often(), 0);
    }

    /** Two rings that never go together, and four that do at one of 201894 ticks. */
    private static void lateMeetings() {
        TapeRings x = new TapeRings();
        Check.ring(x, "10", 0, 0);
        Check.ring(x, "0001", 0, 0);
        x.wish(0, 2);
        x.wish(1, 2);
        check.due(19, "an even and an odd one", x.meets(0), -1);
        x.clear();
        int[] lengths = {19, 21, 22, 23};
        for (int i = 0; i < 4; i++) {
            Check.splice(x, "0".repeat(lengths[i] - 1) + "7");
            x.ring(i & 1, 0);
            x.wish(i, 128);
        }
        check.due(17, "all() of 19, 21, 22, 23", x.all(), 201894);
        check.due(20, "often() of 19, 21, 22, 23", x.often(), 1);
        check.due(19, "meets(0) of 19, 21, 22, 23", x.meets(0), 201893);
        check.due(19, "meets(201894) of them", x.meets(201894), 2 * 201894 - 1);
    }

    private static void howOften() {
        TapeRings x = new TapeRings();
        check.due(20, "often() without rings", x.often(), 1);
        Check.ring(x, "1010", 0, 0);
        check.due(20, "often() without wishes", x.often(), 4);
        x.wish(0, 2);
        check.due(20, "often() of half", x.often(), 2);
        Check.ring(x, "110", 0, 0);
        x.wish(1, 2);
        check.due(20, "often() of a half and two thirds", x.often(), 4);
        Check.ring(x, "100000", 0, 0);
        x.wish(2, 2);
        check.due(20, "often() of all three", x.often(), 2);
        x.motor(1, 1, 5);
        check.due(20, "often() from an odd steady tick on", x.often(), 2);
        x.motor(0, 4, 0);
        check.due(20, "often() of those that stand", x.often(), 0);
        x.motor(0, 4, 1);
        x.motor(0, 6, 0);
        check.due(20, "often() of those that stand well", x.often(), 1);
    }
}
