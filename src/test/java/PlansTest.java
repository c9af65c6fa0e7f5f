/** Promises 21 to 25: MARKS, PLANS and CUTS. */
public final class PlansTest {
    private static final Check check = new Check("PlansTest");

    public static void main(String[] args) {
        marks();
        marksTrue();
        plans();
        equalPlans();
        longRings();
        made();
        cuts();
        check.end();
    }

    private static void marks() {
        TapeRings x = new TapeRings();
        check.due(21, "mark(-1, 1)", x.mark(-1, 1), -1);
        check.due(21, "mark(100001, 1)", x.mark(100001, 1), -1);
        check.due(21, "mark(0, 0)", x.mark(0, 0), -1);
        check.due(21, "mark(0, 10)", x.mark(0, 10), -1);
        check.due(21, "marks after refused ones", x.count(1), 0);
        check.due(21, "mark(100000, 9)", x.mark(100000, 9), 1);
        check.due(21, "the same again", x.mark(100000, 9), 2);
        for (int i = 3; i <= 6; i++) {
            check.due(21, "mark " + i, x.mark(0, 1), i);
        }
        check.due(21, "the seventh", x.mark(0, 1), -1);
        check.due(21, "marks then", x.count(1), 6);
    }

    private static void marksTrue() {
        TapeRings x = new TapeRings();
        check.due(22, "kept() of none", x.kept(), 0);
        x.mark(0, 1);
        check.due(22, "kept() without rings", x.kept(), 0);
        Check.ring(x, "123", 0, 0);
        Check.ring(x, "[45]6", 1, 0);
        x.mark(1, 3);
        x.mark(1, 6);
        x.mark(2, 3);
        x.mark(99999, 1);
        x.mark(100000, 5);
        check.due(22, "kept()", x.kept(), 0b111101);
        x.motor(1, 0, 0);
        check.due(22, "kept() of one that stands", x.kept(), 0b111001);
    }

    private static void plans() {
        TapeRings x = new TapeRings();
        check.due(23, "plan() of nothing", x.plan(), 0);
        x.mark(0, 1);
        check.due(23, "plan() without rings", x.plan(), -1);
        Check.ring(x, "0001", 0, 1);
        check.due(23, "turning alone", x.plan(), 2);
        check.dueText(23, "row of turning alone", Check.row(x), "0 3");
        x.mark(3, 1);
        check.due(23, "no way", x.plan(), -1);
        check.dueText(23, "the row stays", Check.row(x), "0 3");
        Check.ring(x, "10200", 1, 0);
        check.due(23, "two rings", x.plan(), 1);
        check.dueText(23, "row of two rings", Check.row(x), "0 0 0 0");
        x.clear();
        Check.ring(x, "12000", 0, 4);
        x.mark(0, 1);
        x.mark(2, 1);
        check.due(23, "cutting and turning", x.plan(), 19);
        check.dueText(23, "row of cutting and turning", Check.row(x), "3 0");
        x.mark(1, 2);
        check.due(23, "a third mark", x.plan(), 19);
        x.mark(3, 1);
        check.due(23, "no plan", x.plan(), -1);
        check.due(23, "the ring is as it was", x.of(0, 0) * 10 + x.of(0, 2), 54);
        check.due(23, "count(5)", x.count(5), 2);
    }

    private static void equalPlans() {
        TapeRings x = new TapeRings();
        Check.ring(x, "1020100", 0, 2);
        x.mark(0, 1);
        check.due(23, "two starts", x.plan(), 2);
        check.dueText(23, "the less start", Check.row(x), "0 0");
        x.clear();
        Check.ring(x, "01", 0, 0);
        x.ring(0, 0);
        x.mark(0, 1);
        check.due(23, "two rings alike", x.plan(), 1);
        check.dueText(23, "the first ring stays", Check.row(x), "0 0 0 1");
        x.clear();
        Check.ring(x, "0000010", 0, 0);
        x.motor(0, 0, 6);
        x.mark(1, 1);
        check.due(23, "turning by six", x.plan(), 6);
        x.clear();
        Check.ring(x, "1200000", 0, 0);
        x.motor(0, 0, 6);
        x.mark(1, 1);
        check.due(23, "one turned", x.plan(), 1);
        x.mark(0, 1);
        check.due(23, "one cut", x.plan(), 5);
        check.dueText(23, "the cut", Check.row(x), "1 0");
    }

    private static void longRings() {
        TapeRings x = new TapeRings();
        for (int i = 0; i < 4; i++) {
            Check.ring(x, i == 3 ? "2" + "0".repeat(23) : "1" + "0".repeat(23), i & 1, 23);
        }
        for (int tick = 0; tick < 6; tick++) {
            x.mark(tick, 2);
        }
        check.due(23, "one inch of 24 is left", x.plan(), 5 * 23 + 23);
        check.dueText(23, "row of one inch left", Check.row(x), "0 23 0 23 0 23 23 0");
        check.due(24, "one inch left", x.make(), 5 * 23 + 23);
        check.due(24, "its length", x.of(3, 0), 1);
        check.due(24, "the length of another", x.of(2, 0), 24);
    }

    private static void made() {
        TapeRings x = new TapeRings();
        check.due(24, "make() of nothing", x.make(), 0);
        Check.ring(x, "12000", 1, 4);
        x.head(0, 7, true);
        x.head(0, 0, false);
        x.wish(0, 4);
        x.mark(0, 1);
        x.mark(2, 1);
        x.mark(1, 2);
        x.join();
        check.due(24, "plan()", x.plan(), 18);
        check.dueText(24, "row", Check.row(x), "3 1");
        x.join();
        check.due(24, "make()", x.make(), 18);
        check.due(24, "the row stays", x.count(5), 0);
        check.due(24, "its length", x.of(0, 0), 2);
        check.due(24, "its start", x.of(0, 2), 1);
        check.due(24, "its motor", x.of(0, 1), 1);
        check.due(24, "its heads", x.of(0, 3), 128);
        check.due(24, "its wish", x.of(0, 5), 4);
        check.due(24, "kept()", x.kept(), 7);
        check.due(24, "make() again", x.make(), 0);
        x.mark(0, 2);
        check.due(24, "make() of none", x.make(), -1);
        check.due(24, "length then", x.of(0, 0), 2);
    }

    private static void cuts() {
        TapeRings x = new TapeRings();
        Check.ring(x, "1234567", 0, 6);
        check.due(25, "cut(0, 7)", x.cut(0, 7), -1);
        check.due(25, "cut(0, -1)", x.cut(0, -1), -1);
        check.due(25, "cut(1, 0)", x.cut(1, 0), -1);
        check.due(25, "cut(-1, 0)", x.cut(-1, 0), -1);
        check.due(25, "cut(0, 0)", x.cut(0, 0), 7);
        check.due(25, "start of one that is whole", x.of(0, 2), 6);
        check.due(25, "cut(0, 3)", x.cut(0, 3), 4);
        check.due(25, "start by it", x.of(0, 2), 2);
        check.due(25, "the last inch", x.inch(0, 3), 16);
        check.due(25, "no inch more", x.inch(0, 4), -1);
        check.due(25, "what is heard", x.heard(0, 2), 2);
        check.due(25, "cut(0, 1)", x.cut(0, 1), 3);
        check.due(25, "a start that is not gone", x.of(0, 2), 2);
        check.due(25, "cut(0, 2)", x.cut(0, 2), 1);
        check.due(25, "start 0", x.of(0, 2), 0);
        check.due(25, "cut(0, 1) of one inch", x.cut(0, 1), -1);
    }
}
