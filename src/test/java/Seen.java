import java.util.NoSuchElementException;

/** All that can be seen of an object, in parts: so no object is asked more than its 512 calls. */
final class Seen {
    static final int PARTS = 3;
    private static final int MOST_CALLS = 400;

    private final TapeRings x;
    private final StringBuilder told = new StringBuilder();
    private int calls = 0;

    private Seen(TapeRings x) {
        this.x = x;
    }

    /** A line for each call, with what it answers. */
    static String of(TapeRings x, int part) {
        Seen seen = new Seen(x);
        if (part == 0) {
            seen.ringsAndNumbers();
        } else if (part == 1) {
            seen.tapeAndVersions();
        } else {
            seen.whatCallsDo();
        }
        if (seen.calls > MOST_CALLS) {
            throw new IllegalStateException("too many calls to see an object: " + seen.calls);
        }
        return seen.told.toString();
    }

    private void see(String call, Edges.Call made) {
        calls++;
        told.append(call).append(" = ");
        try {
            told.append(made.on(x));
        } catch (NoSuchElementException e) {
            told.append("none such");
        }
        told.append('\n');
    }

    private void seeCounts() {
        for (int what = 0; what <= 7; what++) {
            int w = what;
            see("count(" + w + ")", y -> y.count(w));
        }
    }

    private void seeRow() {
        for (int i = 0; i <= x.count(5); i++) {
            int n = i;
            see("row(" + n + ")", y -> y.row(n));
        }
    }

    private void seeHand() {
        for (int i = 0; i <= x.count(7); i++) {
            int n = i;
            see("hand(" + n + ")", y -> y.hand(n));
        }
    }

    private void seeRings() {
        for (int ring = 0; ring <= x.count(0) && ring < 4; ring++) {
            int r = ring;
            for (int what = 0; what <= 5; what++) {
                int w = what;
                see("of(" + r + ", " + w + ")", y -> y.of(r, w));
            }
            for (int i = 0; i < 24; i++) {
                int n = i;
                see("inch(" + r + ", " + n + ")", y -> y.inch(r, n));
            }
        }
    }

    private void ringsAndNumbers() {
        seeCounts();
        seeRow();
        seeHand();
        seeRings();
        for (int tick : new int[] {1, 2, 3, 7, 20, 200, 4999, 5001, 6000}) {
            see("way(0, " + tick + ")", y -> y.way(0, tick));
            see("way(1, " + tick + ")", y -> y.way(1, tick));
        }
        for (int tick = 0; tick < 30; tick++) {
            int t = tick;
            see("heard(NONE, " + t + ")", y -> y.heard(-1, t));
        }
        see("all()", y -> y.all());
        see("meets(0)", y -> y.meets(0));
        see("meets(6000)", y -> y.meets(6000));
        see("often()", y -> y.often());
        see("kept()", y -> y.kept());
    }

    private void tapeAndVersions() {
        for (int i = 0; i < 25; i++) {
            int n = i;
            see("span(" + n + ")", y -> y.span(n));
            see("pair(" + n + ")", y -> y.pair(n));
        }
        for (int i = 0; i <= x.count(2); i++) {
            int n = i;
            see("mended(" + n + ")", y -> y.mended(n));
        }
        for (int ring = 0; ring < 3; ring++) {
            int r = ring;
            for (int day : new int[] {0, 4, 5, 7, 998, 999}) {
                see("known(" + r + ", " + day + ")", y -> y.known(r, day));
            }
        }
        for (int version = 0; version < x.count(4); version++) {
            int v = version;
            see("edits(0, " + v + ")", y -> y.edits(0, v));
            see("fetch(" + v + ")", y -> y.fetch(v));
            seeHand();
        }
    }

    private void whatCallsDo() {
        for (int tick : new int[] {0, 1, 2, 3, 4, 5, 6, 7, 9, 11, 13, 17, 23, 31, 61, 1999, 2001, 4000}) {
            see("out(" + tick + ")", y -> y.out(tick));
        }
        see("dies()", y -> y.dies());
        seeRow();
        see("plan()", y -> y.plan());
        seeRow();
        see("join()", y -> y.join());
        seeRow();
        int signs = Math.min(60, x.count(6));
        see("end(" + signs + ")", y -> Edges.of(y.end(signs)));
        see("splice()", y -> y.splice());
        seeHand();
        see("make()", y -> y.make());
        seeRings();
        for (int sound = 1; sound <= 9; sound++) {
            int s = sound;
            see("weight(" + s + ", 50)", y -> y.weight(s, 50));
        }
        see("stop(50)", y -> y.stop(50));
        see("out(7)", y -> y.out(7));
        see("burn()", y -> y.burn());
        see("wipe()", y -> y.wipe());
        see("clear()", y -> y.clear());
        seeCounts();
    }
}
