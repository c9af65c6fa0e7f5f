/** Promises 21 to 25 at their edges: MARKS, PLANS and CUTS. */
public final class EdgesOfPlansTest {
    public static void main(String[] args) {
        Edges.run(EdgesOfPlansTest.class);
    }

    private static TapeRings ringOf(String text, int start) {
        TapeRings x = new TapeRings();
        Check.ring(x, text, 0, start);
        return x;
    }

    // ---- promise 21

    @Says("A MARK more: how many.")
    static void promise21_howMany() {
        TapeRings x = new TapeRings();
        for (int n = 1; n <= 6; n++) {
            Edges.due("mark " + n, x.mark(0, 1), n);
            Edges.due("marks then", x.count(1), n);
        }
        Edges.due("one more", x.mark(0, 1), -1);
        Edges.due("marks then", x.count(1), 6);
    }

    @Says("Refused: others,")
    static void promise21_othersAreRefused() {
        Edges.range("tick", 0, 100000, Edges.FULL, (x, v) -> x.mark(v, 3));
        Edges.range("sound", 1, 9, Edges.FULL, (x, v) -> x.mark(3, v));
        Edges.refused("neither", Edges.FULL, x -> x.mark(-1, 0));
    }

    @Says("6.")
    static void promise21_sixAreRefusedMore() {
        for (int sound = 1; sound <= 9; sound += 4) {
            int s = sound;
            Edges.refused("a seventh of " + s, x -> {
                Edges.FULL.on(x);
                for (int i = 0; i < 4; i++) {
                    x.mark(i, 1);
                }
            }, x -> x.mark(7, s));
        }
    }

    // ---- promise 22

    @Says("MARKS that are TRUE, as bits.")
    static void promise22_asBitsFromTheFirstMarkOn() {
        TapeRings x = ringOf("12", 0);
        Edges.due("of none", x.kept(), 0);
        int[] sounds = {1, 2, 1, 1, 2, 2};
        for (int m = 0; m < 6; m++) {
            x.mark(m, sounds[m]);
        }
        Edges.due("of six", x.kept(), 0b100111);
        x.clear();
        Check.ring(x, "1", 0, 0);
        for (int m = 0; m < 6; m++) {
            x.mark(100000 - m, 1);
        }
        Edges.due("all of six", x.kept(), 63);
    }

    static void promise22_withoutRingsNone() {
        TapeRings x = new TapeRings();
        x.mark(0, 1);
        Edges.due("kept()", x.kept(), 0);
    }

    static void promise22_askingChangesNothing() {
        Edges.asks("kept()", Edges.FULL, x -> x.kept());
    }

    // ---- promise 23

    @Says("The sum of COSTS of the LEAST PLAN; the ROW: c, new START of each RING.")
    static void promise23_theSumAndTheRow() {
        TapeRings x = ringOf("001", 0);
        Check.ring(x, "02000", 1, 4);
        x.mark(0, 1);
        x.mark(0, 2);
        Edges.due("plan()", x.plan(), 5);
        Edges.dueText("the row", Check.row(x), "0 2 0 1");
        Edges.due("numbers of the row", x.count(5), 4);
    }

    @Says("NONE: there is none (the ROW stays).")
    static void promise23_noneAndTheRowStays() {
        Edges.refused("plan() of none", x -> {
            Edges.FULL.on(x);
            x.mark(0, 9);
            x.mark(1, 9);
            x.mark(2, 9);
            x.mark(3, 9);
            x.cut(1, 1);
        }, x -> x.plan());
        Edges.refused("plan() of a mark without rings", x -> {
            Edges.FULL.on(x);
            x.clear();
            x.mark(0, 1);
        }, x -> x.plan());
    }

    static void promise23_ofNoRingsAndNoMarks() {
        TapeRings x = new TapeRings();
        x.piece(0x12000000, 2);
        x.join();
        Edges.due("plan()", x.plan(), 0);
        Edges.due("the row is of no rings", x.count(5), 0);
    }

    static void promise23_nothingIsDone() {
        TapeRings x = ringOf("0010", 0);
        x.mark(0, 1);
        x.mark(3, 1);
        Edges.due("plan()", x.plan(), 7);
        Edges.dueText("the row", Check.row(x), "1 2");
        Edges.due("its length", x.of(0, 0), 4);
        Edges.due("its start", x.of(0, 2), 0);
        Edges.due("kept()", x.kept(), 0);
    }

    static void promise23_cutsUpToLengthLess1() {
        TapeRings x = ringOf("1" + "0".repeat(23), 23);
        for (int tick = 0; tick < 6; tick++) {
            x.mark(tick, 1);
        }
        Edges.due("all but one inch of 24", x.plan(), 5 * 23 + 23);
        Edges.dueText("the row", Check.row(x), "23 0");
        x.clear();
        Check.ring(x, "0", 0, 0);
        x.mark(0, 1);
        Edges.due("an inch alone is not cut", x.plan(), -1);
    }

    static void promise23_fourRingsAtTheirMost() {
        TapeRings x = new TapeRings();
        for (int ring = 0; ring < 4; ring++) {
            Check.ring(x, (ring + 1) + "0".repeat(23), ring & 1, 23);
        }
        for (int sound = 1; sound <= 4; sound++) {
            x.mark(0, sound);
        }
        Edges.due("each turned", x.plan(), 4 * 23);
        Edges.dueText("the row", Check.row(x), "0 0 0 0 0 0 0 0");
        x.mark(1, 1);
        x.mark(1, 4);
        Edges.due("two of them cut", x.plan(), 4 * 23 + 2 * 5 * 23);
        Edges.dueText("the row", Check.row(x), "23 0 0 0 0 0 23 0");
    }

    static void promise23_wishesAndHeadsStay() {
        TapeRings x = ringOf("1000", 0);
        x.head(0, 2, true);
        x.head(0, 0, false);
        x.wish(0, 4);
        x.mark(0, 1);
        Edges.due("by the heads that are", x.plan(), 2);
        Edges.dueText("the row", Check.row(x), "0 2");
    }

    // ---- promise 24

    @Says("RINGS are CUT, have their new START:")
    static void promise24_ringsAreCutAndTurned() {
        TapeRings x = ringOf("12000", 4);
        x.mark(0, 1);
        x.mark(2, 1);
        Edges.due("make()", x.make(), 19);
        Edges.due("its length", x.of(0, 0), 2);
        Edges.due("its start", x.of(0, 2), 0);
        Edges.due("inch 1", x.inch(0, 1), 4);
        Edges.due("inch 2", x.inch(0, 2), -1);
        Edges.due("kept()", x.kept(), 3);
        Edges.due("make() again", x.make(), 0);
    }

    @Says("NONE likewise.")
    static void promise24_noneAndNothingIsDone() {
        Edges.refused("make() of none", x -> {
            Edges.FULL.on(x);
            x.mark(0, 9);
            x.mark(1, 9);
            x.mark(2, 9);
            x.mark(3, 9);
            x.cut(1, 1);
        }, x -> x.make());
        Edges.refused("make() of a mark without rings", x -> {
            Edges.FULL.on(x);
            x.clear();
            x.mark(0, 1);
        }, x -> x.make());
    }

    static void promise24_ofNothing0() {
        Edges.still("make() of a new one", Edges.NEW, x -> x.make(), 0);
        Edges.still("make() of what is true", x -> {
            Edges.FULL.on(x);
            x.make();
        }, x -> x.make(), 0);
    }

    @Says({"The LEAST PLAN is done:", "its sum."})
    static void promise24_theSumIsThatOfPlan() {
        TapeRings x = Edges.madeBy(Edges.FULL);
        int sum = x.plan();
        String row = Check.row(x);
        Edges.due("make()", x.make(), sum);
        Edges.dueText("done is the row", x.of(0, 2) + " " + x.of(1, 2), row.split(" ")[1] + " " + row.split(" ")[3]);
        Edges.due("plan() then", x.plan(), 0);
    }

    static void promise24_marksHeadsAndWishesStay() {
        TapeRings x = ringOf("0001", 0);
        x.head(0, 7, true);
        x.wish(0, 2);
        x.mark(0, 1);
        x.mark(1, 1);
        Edges.due("make()", x.make(), 3);
        Edges.due("marks", x.count(1), 2);
        Edges.due("its heads", x.of(0, 3), 129);
        Edges.due("its wish", x.of(0, 5), 2);
        Edges.due("kept()", x.kept(), 3);
    }

    // ---- promise 25

    @Says({"CUT of a RING by c: its LENGTH then", "Refused: others."})
    static void promise25_from0ToLengthLess1() {
        Edges.range("cut's c", 0, 4, Edges.FULL, (x, v) -> x.cut(0, v));
        Edges.range("cut's c of an inch alone", 0, 0, x -> Check.ring(x, "1", 0, 0), (x, v) -> x.cut(0, v));
        Edges.range("cut's c of 24", 0, 23, x -> Check.ring(x, "1*8*3", 0, 0), (x, v) -> x.cut(0, v));
        for (int c = 0; c < 5; c++) {
            Edges.due("cut(0, " + c + ")", ringOf("12345", 0).cut(0, c), 5 - c);
        }
    }

    @Says("Refused: others.")
    static void promise25_othersAreRefused() {
        Edges.range("cut's ring", 0, 1, Edges.FULL, (x, v) -> x.cut(v, 1));
        Edges.refused("cut(0, 0) without rings", Edges.NEW, x -> x.cut(0, 0));
    }

    @Says("(a START that is gone is the one by it).")
    static void promise25_aStartThatIsGoneIsTheOneByIt() {
        int[][] due = {{4, 4, 5}, {4, 0, 4}, {4, 1, 3}, {4, 0, 2}, {4, 0, 1}, {3, 3, 4}, {3, 0, 3}, {3, 1, 2}, {2, 2, 3}};
        for (int[] d : due) {
            TapeRings x = ringOf("12345", d[0]);
            Edges.due("cut(0, " + (5 - d[2]) + ")", x.cut(0, 5 - d[2]), d[2]);
            Edges.due("start " + d[0] + " by " + d[2], x.of(0, 2), d[1]);
        }
    }

    static void promise25_whatIsHeardFollows() {
        TapeRings x = ringOf("12345", 0);
        x.head(0, 4, true);
        Edges.due("heard(0, 0)", x.heard(0, 0), 2 + 32);
        x.cut(0, 1);
        Edges.due("heard(0, 0) of 4", x.heard(0, 0), 2);
        x.cut(0, 1);
        Edges.due("heard(0, 0) of 3", x.heard(0, 0), 2 + 4);
        Edges.due("its round", x.of(0, 4), 3);
        Edges.due("heard(0, 3) of 3", x.heard(0, 3), 2 + 4);
    }

    static void promise25_versionsAndTheHandKeepTheirInches() {
        TapeRings x = Edges.madeBy(Edges.FULL);
        x.cut(0, 4);
        Edges.due("inches in hand", x.count(7), 4);
        Edges.due("fetch(0)", x.fetch(0), 5);
        x.over(0, 0, 0);
        Edges.due("a cut ring stays cut", x.of(0, 0), 1);
    }
}
