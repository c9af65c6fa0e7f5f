/** Promises 1 and 6 to 14: RINGS and MOTORS. */
public final class RingsTest {
    private static final Check check = new Check("RingsTest");

    public static void main(String[] args) {
        newObject();
        newRings();
        layingOver();
        setting();
        heads();
        motors();
        clearing();
        counts();
        partsOfRings();
        check.end();
    }

    private static void newObject() {
        TapeRings x = new TapeRings();
        for (int what = 0; what <= 7; what++) {
            check.due(1, "count(" + what + ") of a new one", x.count(what), 0);
        }
        check.due(1, "NONE", TapeRings.NONE, -1);
        check.due(1, "way(0, 10)", x.way(0, 10), 10);
        check.due(1, "way(1, 10)", x.way(1, 10), 10);
        check.due(1, "all()", x.all(), 1);
        check.due(1, "kept()", x.kept(), 0);
        check.due(1, "heard(NONE, 0)", x.heard(-1, 0), 0);
        check.due(1, "weight(9, 1)", x.weight(9, 1), 100);
        check.due(1, "stop(1)", x.stop(1), 0);
        check.due(1, "known(0, 999)", x.known(0, 999), -1);
        check.throwsNoSuch(1, "row(0)", () -> x.row(0));
    }

    private static void newRings() {
        TapeRings x = new TapeRings();
        check.due(6, "ring of an empty strip", x.ring(0, 0), -1);
        Check.splice(x, "123");
        check.due(6, "ring(2, 0)", x.ring(2, 0), -1);
        check.due(6, "ring(-1, 0)", x.ring(-1, 0), -1);
        check.due(6, "ring(0, 3)", x.ring(0, 3), -1);
        check.due(6, "ring(0, -1)", x.ring(0, -1), -1);
        check.due(6, "no ring from refused ones", x.count(0), 0);
        check.due(6, "ring(1, 2)", x.ring(1, 2), 0);
        Check.splice(x, "45");
        check.due(6, "ring(0, 1)", x.ring(0, 1), 1);
        check.due(6, "ring(0, 0)", x.ring(0, 0), 2);
        check.due(6, "ring(0, 0) the fourth", x.ring(0, 0), 3);
        check.due(6, "ring(0, 0) the fifth", x.ring(0, 0), -1);
        check.due(6, "the strip in hand stays", x.count(7), 2);
        check.due(6, "the first is as it was", x.inch(0, 2), 8);
        x.clear();
        check.due(6, "a new first one", x.ring(0, 0), 0);
        check.due(6, "its heads", x.of(0, 3), 1);
    }

    private static void layingOver() {
        TapeRings x = new TapeRings();
        Check.ring(x, "12345", 0, 0);
        Check.splice(x, "623");
        check.due(7, "over(0, 1, 0)", x.over(0, 1, 0), 3);
        check.due(7, "inch 1", x.inch(0, 1), 64);
        check.due(7, "inch 2", x.inch(0, 2), 4);
        check.due(7, "inch 3", x.inch(0, 3), 8);
        check.due(7, "the same again", x.over(0, 1, 0), 0);
        check.due(7, "with it", x.over(0, 2, 1), 3);
        check.due(7, "inch 2 of both", x.inch(0, 2), 68);
        check.due(7, "inch 4 of both", x.inch(0, 4), 40);
        check.due(7, "at the end, as far as it goes", x.over(0, 4, 0), 1);
        check.due(7, "inch 4 in place", x.inch(0, 4), 64);
        check.due(7, "inch 0 stays", x.inch(0, 0), 2);
        check.due(7, "what becomes heard", x.heard(0, 4), 64);
        check.due(7, "over(1, 0, 0)", x.over(1, 0, 0), -1);
        check.due(7, "over(-1, 0, 0)", x.over(-1, 0, 0), -1);
        check.due(7, "over(0, 5, 0)", x.over(0, 5, 0), -1);
        check.due(7, "over(0, -1, 0)", x.over(0, -1, 0), -1);
        check.due(7, "over(0, 0, 2)", x.over(0, 0, 2), -1);
        check.due(7, "over(0, 0, -1)", x.over(0, 0, -1), -1);
        Check.splice(x, "0");
        check.due(7, "nothing with it", x.over(0, 0, 1), 0);
        check.due(7, "nothing in place", x.over(0, 0, 0), 1);
        check.due(7, "inch 0 then", x.inch(0, 0), 0);
    }

    private static void setting() {
        TapeRings x = new TapeRings();
        Check.ring(x, "123", 1, 2);
        check.due(8, "set(0, 0, 0)", x.set(0, 0, 0), 1);
        check.due(8, "its motor", x.of(0, 1), 0);
        check.due(8, "set(0, 1, 0)", x.set(0, 1, 0), 2);
        check.due(8, "its start", x.of(0, 2), 0);
        check.due(8, "set(0, 1, 2)", x.set(0, 1, 2), 0);
        check.due(8, "set(0, 1, 3)", x.set(0, 1, 3), -1);
        check.due(8, "set(0, 1, -1)", x.set(0, 1, -1), -1);
        check.due(8, "set(0, 0, 2)", x.set(0, 0, 2), -1);
        check.due(8, "set(0, 0, -1)", x.set(0, 0, -1), -1);
        check.due(8, "set(0, 2, 0)", x.set(0, 2, 0), -1);
        check.due(8, "set(0, -1, 0)", x.set(0, -1, 0), -1);
        check.due(8, "set(1, 0, 0)", x.set(1, 0, 0), -1);
        check.due(8, "set(-1, 0, 0)", x.set(-1, 0, 0), -1);
        check.due(8, "its start after refused ones", x.of(0, 2), 2);
        check.due(8, "its motor after refused ones", x.of(0, 1), 0);
    }

    private static void heads() {
        TapeRings x = new TapeRings();
        Check.ring(x, "123", 0, 0);
        check.due(9, "the last one", x.head(0, 0, false), -1);
        check.due(9, "one that is none", x.head(0, 5, false), 1);
        check.due(9, "head(0, 23)", x.head(0, 23, true), 2);
        check.due(9, "again", x.head(0, 23, true), 2);
        check.due(9, "as bits", x.of(0, 3), 1 << 23 | 1);
        check.due(9, "23 is at inch 2 of 3", x.heard(0, 0), 10);
        check.due(9, "head(0, 24)", x.head(0, 24, true), -1);
        check.due(9, "head(0, -1)", x.head(0, -1, true), -1);
        check.due(9, "head(1, 0)", x.head(1, 0, true), -1);
        check.due(9, "head(-1, 0)", x.head(-1, 0, true), -1);
        check.due(9, "the first off", x.head(0, 0, false), 1);
        check.due(9, "heard then", x.heard(0, 0), 8);
        check.due(9, "the last off", x.head(0, 23, false), -1);
        check.due(9, "as bits then", x.of(0, 3), 1 << 23);
    }

    private static void motors() {
        TapeRings x = new TapeRings();
        check.due(10, "motor(0, 5, 9)", x.motor(0, 5, 9), true);
        check.due(10, "motor(0, 2, -9)", x.motor(0, 2, -9), true);
        check.due(10, "way to 2", x.way(0, 2), 2);
        check.due(10, "way to 5", x.way(0, 5), 2 - 27);
        check.due(10, "way to 7", x.way(0, 7), 2 - 27 + 18);
        check.due(10, "in place", x.motor(0, 2, 0), true);
        check.due(10, "way to 7 then", x.way(0, 7), 20);
        check.due(10, "the other one", x.way(1, 7), 7);
        check.due(10, "tick -1", x.motor(0, -1, 1), false);
        check.due(10, "tick 5001", x.motor(0, 5001, 1), false);
        check.due(10, "tick 5000", x.motor(0, 5000, 1), true);
        check.due(10, "speed 10", x.motor(0, 1, 10), false);
        check.due(10, "speed -10", x.motor(0, 1, -10), false);
        check.due(10, "motor 2", x.motor(2, 1, 1), false);
        check.due(10, "motor -1", x.motor(-1, 1, 1), false);
        for (int i = 0; i < 9; i++) {
            check.due(10, "tick more", x.motor(0, 10 + i, i), true);
        }
        check.due(10, "the 13th tick", x.motor(0, 100, 0), false);
        check.due(10, "a told one of 12", x.motor(0, 18, 2), true);
        check.due(10, "way to 21", x.way(0, 21), 2 + 5 * 9 + 1 + 2 + 3 + 4 + 5 + 6 + 7 + 2 + 2 + 2);
        check.due(10, "the other has its own 12", x.motor(1, 100, 0), true);
        check.due(10, "way of the other", x.way(1, 200), 100);
    }

    private static void clearing() {
        TapeRings x = new TapeRings();
        check.due(11, "clear() of none", x.clear(), 0);
        Check.ring(x, "123", 0, 0);
        x.ring(0, 0);
        x.wish(0, 2);
        x.mark(0, 1);
        x.motor(0, 0, 5);
        x.motor(1, 7, 5);
        x.keep(0, 3);
        x.tape(2);
        x.piece(0x10000000, 1);
        x.join();
        x.sign(0);
        x.head(0, 1, true);
        check.due(11, "clear()", x.clear(), 2);
        int[] due = {0, 0, 1, 1, 1, 1, 4, 3};
        for (int what = 0; what < due.length; what++) {
            check.due(11, "count(" + what + ") then", x.count(what), due[what]);
        }
        check.due(11, "way(0, 3)", x.way(0, 3), 3);
        check.due(11, "way(1, 30)", x.way(1, 30), 30);
        check.due(11, "heard in all", x.heard(-1, 0), 0);
        x.ring(0, 0);
        check.due(11, "wish of a new one", x.of(0, 5), 0);
        check.due(11, "heads of a new one", x.of(0, 3), 1);
        check.due(11, "meets(1)", x.meets(1), 1);
        check.due(11, "known(0, 5)", x.known(0, 5), 0);
    }

    private static void counts() {
        TapeRings x = new TapeRings();
        Check.ring(x, "123", 0, 0);
        x.ring(0, 0);
        x.mark(0, 1);
        x.mark(0, 1);
        x.mark(0, 1);
        x.take(0, 4);
        for (int i = 0; i < 5; i++) {
            x.piece(0, 1);
        }
        for (int i = 0; i < 6; i++) {
            x.keep(0, 0);
        }
        x.plan();
        x.sign(0);
        x.sign(0);
        int[] due = {2, 3, 4, 5, 6, 4, 8, 3};
        for (int what = 0; what < due.length; what++) {
            check.due(12, "count(" + what + ")", x.count(what), due[what]);
        }
        check.due(12, "count(8)", x.count(8), -1);
        check.due(12, "count(-1)", x.count(-1), -1);
    }

    private static void partsOfRings() {
        TapeRings x = new TapeRings();
        Check.ring(x, "123456", 1, 4);
        x.head(0, 3, true);
        x.wish(0, 6);
        x.motor(1, 3, -4);
        int[] due = {6, 1, 4, 9, 3, 6};
        for (int what = 0; what < due.length; what++) {
            check.due(13, "of(0, " + what + ")", x.of(0, what), due[what]);
        }
        for (int what : new int[] {-1, 6, Integer.MIN_VALUE}) {
            check.throwsNoSuch(13, "of(0, " + what + ")", () -> x.of(0, what));
        }
        for (int ring : new int[] {-1, 1, 4, Integer.MAX_VALUE}) {
            check.throwsNoSuch(13, "of(" + ring + ", 0)", () -> x.of(ring, 0));
        }
        int[] rounds = {1, 6, 3, 2, 3, 6, 1, 6, 3, 2};
        for (int speed = -9; speed <= 9; speed++) {
            x.motor(1, 3, speed);
            check.due(13, "round at speed " + speed, x.of(0, 4), rounds[Math.abs(speed)]);
        }
        x.motor(1, 2, 5);
        check.due(13, "round by the last speed", x.of(0, 4), 2);
        check.due(14, "inch(0, 0)", x.inch(0, 0), 2);
        check.due(14, "inch(0, 5)", x.inch(0, 5), 64);
        check.due(14, "inch(0, 6)", x.inch(0, 6), -1);
        check.due(14, "inch(0, -1)", x.inch(0, -1), -1);
        check.due(14, "inch(1, 0)", x.inch(1, 0), -1);
        check.due(14, "inch(-1, 0)", x.inch(-1, 0), -1);
    }
}
