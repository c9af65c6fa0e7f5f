import java.util.HashMap;
import java.util.Map;
import java.util.TreeSet;

/** What a call changes, and that nothing else can be seen to be another then. */
public final class ChangesOfPromisesTest {
    public static void main(String[] args) {
        Edges.run(ChangesOfPromisesTest.class);
    }

    // what can be seen in the parts 0, 1 and 2 of Seen
    private static final String TEXT = "0:count\\(6\\)|2:(end|splice|hand|count\\([67]\\)).*";
    private static final String HEARD = "0:(heard|all|meets|often|kept).*|2:(out|dies|plan|row|make|of|inch|count\\(5\\)).*";
    private static final String ECHO = "2:(out|dies|row|count\\(5\\)).*";
    private static final String ROW = "0:(row.*|count\\(5\\))|2:row.*";
    private static final String TAPE = "0:count\\(2\\)|1:(span|pair|mended).*|2:wipe.*";
    private static final String PIECES = "0:count\\(3\\)|2:(join|row|count\\(5\\)|burn).*";

    /** What is seen of two objects made alike, one with and one without the call, is alike but for this. */
    private static void changes(String call, String changed, Edges.Call made) {
        boolean some = false;
        for (int part = 0; part < Seen.PARTS; part++) {
            TapeRings called = Edges.madeBy(Edges.FULL);
            made.on(called);
            Map<String, String> of = lines(part, Seen.of(called, part));
            Map<String, String> without = lines(part, Seen.of(Edges.madeBy(Edges.FULL), part));
            TreeSet<String> all = new TreeSet<>(of.keySet());
            all.addAll(without.keySet());
            for (String line : all) {
                boolean alike = of.getOrDefault(line, "").equals(without.getOrDefault(line, ""));
                Edges.due(call + " changes " + line, !alike && !line.matches("(" + changed + ") #\\d+"), false);
                some |= !alike;
            }
        }
        Edges.due(call + " changes something", some, true);
    }

    private static Map<String, String> lines(int part, String seen) {
        Map<String, Integer> times = new HashMap<>();
        Map<String, String> lines = new HashMap<>();
        for (String line : seen.split("\n")) {
            String call = part + ":" + line.substring(0, line.indexOf(" = "));
            lines.put(call + " #" + times.merge(call, 1, Integer::sum), line.substring(line.indexOf(" = ")));
        }
        return lines;
    }

    static void promise2_changesTheTextAlone() {
        changes("sign", TEXT, x -> x.sign(0x31313131));
    }

    static void promise3_changesTheTextAlone() {
        changes("end", TEXT, x -> Edges.of(x.end(1)));
    }

    static void promise4_changesTheTextAndTheHandAlone() {
        changes("splice", TEXT + "|0:(hand.*|count\\(7\\))", x -> x.splice());
    }

    static void promise6_makesARingAlone() {
        changes("ring", HEARD + "|0:(count\\(0\\)|of\\([23].*|inch\\([23].*)|2:clear.*", x -> x.ring(0, 0));
    }

    static void promise7_changesTheInchesOfTheRingAlone() {
        changes("over", HEARD + "|0:inch\\(0.*", x -> x.over(0, 1, 0));
    }

    static void promise8_changesTheMotorOrTheStartAlone() {
        changes("set motor", HEARD + "|0:of\\(0, [14]\\)", x -> x.set(0, 0, 1));
        changes("set start", HEARD + "|0:of\\(0, 2\\)", x -> x.set(0, 1, 4));
    }

    static void promise9_changesTheHeadsAlone() {
        changes("head", HEARD + "|0:of\\(0, 3\\)", x -> x.head(0, 2, true));
    }

    static void promise10_changesTheWayAlone() {
        changes("motor", HEARD + "|0:(of\\(0, 4\\)|way\\(0.*)", x -> Edges.of(x.motor(0, 2, 5)));
    }

    static void promise11_changesRingsMarksAndWaysAlone() {
        changes("clear", HEARD + "|0:(of|way|inch|count\\([01]\\)).*|2:clear.*", x -> x.clear());
    }

    static void promise18_changesTheWishAlone() {
        changes("wish", "0:(of\\(0, 5\\)|meets.*|often.*)|2:of\\(0, 5\\)", x -> Edges.of(x.wish(0, 16)));
    }

    static void promise21_changesTheMarksAlone() {
        changes("mark", "0:(count\\(1\\)|kept.*)|2:(plan|row|make|of|inch).*", x -> x.mark(1, 9));
    }

    static void promise23_changesTheRowAlone() {
        changes("plan", ROW, x -> x.plan());
    }

    static void promise24_changesWhatThePlanTellsAlone() {
        changes("make", HEARD + "|0:(of\\([01], [024]\\)|inch.*)", x -> x.make());
    }

    static void promise25_changesTheRingAlone() {
        changes("cut", HEARD + "|0:(of\\(0, [024]\\)|inch\\(0.*)", x -> x.cut(0, 2));
    }

    static void promise26_changesTheWeightAlone() {
        changes("weight", ECHO + "|2:weight\\(1, 50\\)", x -> x.weight(1, 60));
    }

    static void promise27_changesTheEchoAlone() {
        changes("heads", ECHO, x -> Edges.of(x.heads(1, 30, 2, 20)));
    }

    static void promise28_changesTheStopAlone() {
        changes("stop", ECHO + "|2:stop.*", x -> x.stop(7));
    }

    static void promise30_changesTheRowAlone() {
        Edges.Making round = x -> {
            Edges.FULL.on(x);
            x.heads(20, 100, 1, 0);
        };
        TapeRings x = Edges.madeBy(round);
        x.dies();
        Edges.dueText("the row", Check.row(x), "30 20");
        x.join();
        for (int part = 0; part < Seen.PARTS; part++) {
            TapeRings y = Edges.madeBy(round);
            y.dies();
            y.join();
            Edges.dueText("all else", Seen.of(y, part), Seen.of(Edges.madeBy(round), part));
        }
    }

    static void promise31_changesTheOldTapeAlone() {
        changes("tape", TAPE, x -> x.tape(8));
    }

    static void promise32_changesTheOldTapeAlone() {
        changes("take", TAPE, x -> Edges.of(x.take(3, 9)));
    }

    static void promise33_changesTheOldTapeAlone() {
        changes("gap", TAPE, x -> Edges.of(x.gap(6)));
    }

    static void promise34_changesTheOldTapeAlone() {
        changes("wipe", TAPE, x -> x.wipe());
    }

    static void promise38_changesThePiecesAlone() {
        changes("piece", PIECES, x -> x.piece(0x99000000, 2));
    }

    static void promise39_changesThePiecesAlone() {
        changes("burn", PIECES, x -> x.burn());
    }

    static void promise40_changesTheRowAlone() {
        changes("join", ROW, x -> {
            x.piece(0x99000000, 2);
            x.join();
            x.burn();
            x.piece(0x12300000, 3);
            return x.piece(0x43000000, 2);
        });
    }

    static void promise41_changesTheVersionsAlone() {
        changes("keep", "[02]:count\\(4\\)|1:(known|edits|fetch|hand).*", x -> x.keep(0, 9));
    }

    static void promise43_changesTheHandAlone() {
        changes("fetch", "0:(hand.*|count\\(7\\))", x -> x.fetch(1));
    }
}
