/** Promises 26 to 30: ECHOES. */
public final class EchoesTest {
    private static final Check check = new Check("EchoesTest");

    public static void main(String[] args) {
        weights();
        delays();
        stops();
        outs();
        dying();
        goingRound();
        notSeen();
        lastTicksSeen();
        check.end();
    }

    private static void weights() {
        TapeRings x = new TapeRings();
        for (int sound = 1; sound <= 9; sound++) {
            check.due(26, "weight(" + sound + ", 0)", x.weight(sound, 0), 100);
        }
        check.due(26, "weight(3, 200)", x.weight(3, 200), 0);
        check.due(26, "weight(3, 201)", x.weight(3, 201), -1);
        check.due(26, "weight(3, -1)", x.weight(3, -1), -1);
        check.due(26, "weight(0, 1)", x.weight(0, 1), -1);
        check.due(26, "weight(10, 1)", x.weight(10, 1), -1);
        check.due(26, "weight(3, 5) after refused ones", x.weight(3, 5), 200);
        x.weight(4, 7);
        Check.ring(x, "[34]3", 0, 0);
        x.stop(5);
        check.due(26, "both sounds", x.out(0), 12);
        check.due(26, "one sound", x.out(1), 5);
    }

    private static void delays() {
        TapeRings x = new TapeRings();
        Check.ring(x, "1", 0, 0);
        x.stop(1);
        check.due(27, "heads(2, 50, 3, 25)", x.heads(2, 50, 3, 25), true);
        int[][] refused = {{0, 1, 1, 1}, {21, 1, 1, 1}, {1, -1, 1, 1}, {1, 101, 1, 1},
                {1, 1, 0, 1}, {1, 1, 21, 1}, {1, 1, 1, -1}, {1, 1, 1, 101}};
        for (int[] r : refused) {
            check.due(27, "refused heads", x.heads(r[0], r[1], r[2], r[3]), false);
        }
        int[] due = {100, 0, 50, 25, 25, 24, 18, 18};
        for (int t = 0; t < due.length; t++) {
            check.due(27, "out(" + t + ") after refused ones", x.out(t), due[t]);
        }
        check.due(27, "heads(20, 100, 20, 100)", x.heads(20, 100, 20, 100), true);
        check.due(27, "out(20)", x.out(20), 200);
        check.due(27, "out(19)", x.out(19), 0);
        check.due(27, "heads(1, 0, 1, 0)", x.heads(1, 0, 1, 0), true);
        check.due(27, "out(1)", x.out(1), 0);
    }

    private static void stops() {
        TapeRings x = new TapeRings();
        Check.ring(x, "1", 0, 0);
        check.due(28, "out(0) at first", x.out(0), 0);
        check.due(28, "stop(2000)", x.stop(2000), 0);
        check.due(28, "stop(2001)", x.stop(2001), -1);
        check.due(28, "stop(-1)", x.stop(-1), -1);
        check.due(28, "out(1999)", x.out(1999), 100);
        check.due(28, "out(2000)", x.out(2000), 0);
        check.due(28, "stop(7)", x.stop(7), 2000);
        check.due(28, "out(6)", x.out(6), 100);
        check.due(28, "out(7)", x.out(7), 0);
        check.due(28, "stop(0)", x.stop(0), 7);
    }

    private static void outs() {
        TapeRings x = new TapeRings();
        Check.ring(x, "1", 0, 0);
        x.stop(2000);
        x.heads(1, 99, 2, 99);
        check.due(29, "each cut", x.out(1), 199);
        check.due(29, "out(2)", x.out(2), 100 + 197 + 99);
        check.due(29, "5000 at most", x.out(1999), 5000);
        check.due(29, "out(4000)", x.out(4000), 5000);
        check.due(29, "out(4001)", x.out(4001), -1);
        check.due(29, "out(-1)", x.out(-1), -1);
        check.due(29, "out(MIN)", x.out(Integer.MIN_VALUE), -1);
        x.weight(1, 1);
        x.heads(1, 50, 1, 50);
        check.due(29, "halves are cut each", x.out(1), 1);
        x.motor(0, 0, 1);
        Check.splice(x, "0");
        x.over(0, 0, 0);
        check.due(29, "nothing is heard", x.out(5), 0);
    }

    private static void dying() {
        TapeRings x = new TapeRings();
        check.due(30, "dies() of nothing", x.dies(), 0);
        Check.ring(x, "1", 0, 0);
        x.stop(30);
        check.due(30, "dies() at stop", x.dies(), 30);
        Check.splice(x, "0");
        x.over(0, 0, 0);
        check.due(30, "dies() of silence at stop", x.dies(), 30);
        Check.splice(x, "1");
        x.over(0, 0, 0);
        x.heads(20, 50, 1, 0);
        check.due(30, "dies() by the far head", x.dies(), 170);
        check.due(30, "the last that is heard", x.out(169), 1);
        x.heads(20, 1, 1, 0);
        check.due(30, "dies() of the far head at one of a hundred", x.dies(), 50);
        check.due(30, "no row", x.count(5), 0);
    }

    private static void goingRound() {
        TapeRings x = new TapeRings();
        Check.ring(x, "1", 0, 0);
        x.stop(1);
        x.heads(20, 100, 1, 0);
        check.due(30, "dies() of one in 20", x.dies(), -2);
        check.dueText(30, "row of one in 20", Check.row(x), "1 20");
        x.heads(7, 100, 1, 0);
        check.due(30, "dies() of one in 7", x.dies(), -2);
        check.dueText(30, "row of one in 7", Check.row(x), "1 7");
        x.heads(2, 100, 2, 100);
        check.due(30, "dies() of one that grows", x.dies(), -2);
        check.dueText(30, "row of one that grows", Check.row(x), "11 2");
        x.heads(2, 100, 2, 1);
        check.due(30, "dies() of one that grows slowly", x.dies(), -2);
        x.heads(1, 50, 2, 50);
        x.stop(2);
        check.due(30, "out(2)", x.out(2), 125);
        x.stop(0);
        check.due(30, "dies() without a stop", x.dies(), 0);
    }

    /** One that loses a hundredth in 20 ticks is not silent within 4000. */
    private static void notSeen() {
        TapeRings x = new TapeRings();
        Check.ring(x, "[123456789]", 0, 0);
        x.stop(1);
        x.heads(2, 100, 1, 0);
        x.dies();
        x.heads(20, 99, 20, 0);
        check.due(30, "dies() of slow ones", x.dies(), -3);
        check.dueText(30, "the row stays", Check.row(x), "1 2");
    }

    private static TapeRings sounding(int weight, int stop, int d, int a, int e, int b) {
        TapeRings x = new TapeRings();
        Check.ring(x, "1", 0, 0);
        x.weight(1, weight);
        x.stop(stop);
        x.heads(d, a, e, b);
        return x;
    }

    /** What can be seen at the TICKS up to 4000 just so, and just not. */
    private static void lastTicksSeen() {
        TapeRings x = sounding(200, 1, 20, 99, 1, 0);
        Check.splice(x, "[12]");
        x.over(0, 0, 0);
        x.weight(2, 167);
        check.due(30, "the last that is heard", x.out(3980), 1);
        check.due(30, "20 silent ticks up to 4000", x.dies(), 3981);
        x.stop(2);
        check.due(30, "20 silent ticks up to 4001", x.dies(), -3);
        x = sounding(84, 16, 15, 61, 20, 41);
        check.due(30, "the same 20 up to 4000", x.dies(), -2);
        check.dueText(30, "row of the same 20 up to 4000", Check.row(x), "3966 15");
        x = sounding(155, 1, 19, 100, 8, 5);
        check.due(30, "the same up to 4000", x.dies(), -2);
        check.dueText(30, "row of the same up to 4000", Check.row(x), "3980 1");
        check.due(30, "the same up to 4001", sounding(147, 15, 19, 100, 6, 2).dies(), -3);
        check.due(30, "the same up to 4001 again", sounding(116, 105, 18, 91, 19, 10).dies(), -3);
    }
}
