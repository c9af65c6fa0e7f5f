import java.lang.reflect.InvocationTargetException;
import java.lang.reflect.Method;
import java.util.ArrayList;
import java.util.Comparator;
import java.util.List;
import java.util.NoSuchElementException;

/**
 * What the tests of edges and sentences share. Such a test is a static method without arguments whose name begins with
 * the promise or the term on which it stands: promise6_.., term1_... A call that is refused is made on one of two
 * objects made alike; all that can be seen of both has to be alike then.
 */
final class Edges {
    /** Calls that bring a new object into the state that a test wants. */
    interface Making {
        void on(TapeRings x);
    }

    /** One call; a boolean counts 1 or 0. */
    interface Call {
        long on(TapeRings x);
    }

    /** One call with one number that is to be tried. */
    interface CallWith {
        long on(TapeRings x, int v);
    }

    static final Making NEW = x -> { };

    /** Something of all that an object can hold. */
    static final Making FULL = Edges::fill;

    private static final long THROWN = Long.MIN_VALUE + 7;

    private static String test = "";
    private static int asked = 0;
    private static int wrong = 0;

    private Edges() {
    }

    private static void fill(TapeRings x) {
        Check.ring(x, "12[34]05", 0, 1);
        Check.ring(x, "567~89", 1, 2);
        x.head(0, 5, true);
        x.head(1, 1, true);
        x.motor(0, 3, -2);
        x.motor(1, 10, 5);
        x.wish(0, 4);
        x.wish(1, 64);
        x.mark(4, 3);
        x.mark(9, 5);
        for (int bits : new int[] {2, 6, TapeRings.NONE, 6, 2, 6, 0}) {
            x.tape(bits);
        }
        x.piece(0x12300000, 3);
        x.piece(0x43000000, 2);
        x.keep(0, 5);
        x.keep(1, 7);
        x.stop(30);
        x.heads(3, 50, 7, 40);
        x.weight(2, 150);
        x.join();
        Check.splice(x, "[19]280");
        Check.put(x, "1*3");
    }

    static boolean isTest(Method m) {
        return m.getName().matches("(promise|term)\\d+_\\w+");
    }

    static int numberOf(Method m) {
        return Integer.parseInt(m.getName().replaceAll("\\D+(\\d+)_.*", "$1"));
    }

    static void run(Class<?> tests) {
        List<Method> found = new ArrayList<>();
        for (Method m : tests.getDeclaredMethods()) {
            if (isTest(m)) {
                found.add(m);
            }
        }
        found.sort(Comparator.comparingInt(Edges::numberOf).thenComparing(Method::getName));
        for (Method m : found) {
            runOne(m);
        }
        System.out.println(tests.getName() + ": " + found.size() + " tests, " + asked + " asked, " + wrong + " wrong");
        if (wrong != 0 || found.isEmpty()) {
            System.exit(1);
        }
    }

    private static void runOne(Method m) {
        test = m.getName();
        try {
            m.setAccessible(true);
            m.invoke(null);
        } catch (InvocationTargetException e) {
            fault("threw " + e.getCause());
        } catch (IllegalAccessException e) {
            fault("can't be called: " + e);
        }
    }

    private static void fault(String told) {
        wrong++;
        System.out.println(test + ": " + told);
    }

    static void due(String call, long got, long want) {
        asked++;
        if (got != want) {
            fault(call + " answered " + got + ", due is " + want);
        }
    }

    static void due(String call, boolean got, boolean want) {
        due(call, got ? 1 : 0, want ? 1 : 0);
    }

    static void dueText(String call, String got, String want) {
        asked++;
        if (!got.equals(want)) {
            fault(call + " is [" + got + "], due is [" + want + "]");
        }
    }

    /** On objects made so the call answers this, and nothing that can be seen of them changes by it. */
    static void still(String call, Making making, Call made, long answer) {
        for (int part = 0; part < Seen.PARTS; part++) {
            TapeRings called = madeBy(making);
            TapeRings left = madeBy(making);
            long got = answerOf(called, made);
            asked++;
            if (got != answer) {
                fault(call + " answered " + told(got) + ", due is " + told(answer));
                return;
            }
            String of = Seen.of(called, part);
            String due = Seen.of(left, part);
            if (!of.equals(due)) {
                fault(call + " changed something: " + firstUnlike(of, due));
                return;
            }
        }
    }

    static void refused(String call, Making making, Call made) {
        still(call, making, made, TapeRings.NONE);
    }

    static void refusedFalse(String call, Making making, Call made) {
        still(call, making, made, 0);
    }

    static void noSuch(String call, Making making, Call made) {
        still(call, making, made, THROWN);
    }

    /** A call that only asks: it answers the same again, and changes nothing. */
    static void asks(String call, Making making, Call made) {
        still(call, making, made, answerOf(madeBy(making), made));
    }

    static long of(boolean answer) {
        return answer ? 1 : 0;
    }

    /**
     * A number from least to most: the numbers at both ends are taken (the call answers no refusal), those beyond
     * and the utmost ones are refused, and change nothing.
     */
    static void range(String call, int least, int most, Making making, CallWith made, long refusal) {
        for (int v : new int[] {least, Math.min(least + 1, most), Math.max(most - 1, least), most}) {
            asked++;
            long got = answerOf(madeBy(making), x -> made.on(x, v));
            if (got == refusal) {
                fault(call + " of " + v + " is refused");
            }
        }
        for (int v : new int[] {least - 1, least - 2, most + 1, most + 2, Integer.MIN_VALUE, Integer.MAX_VALUE}) {
            if (v < least || v > most) {
                still(call + " of " + v, making, x -> made.on(x, v), refusal);
            }
        }
    }

    static void range(String call, int least, int most, Making making, CallWith made) {
        range(call, least, most, making, made, TapeRings.NONE);
    }

    static void rangeThrown(String call, int least, int most, Making making, CallWith made) {
        range(call, least, most, making, made, THROWN);
    }

    static TapeRings madeBy(Making making) {
        TapeRings x = new TapeRings();
        making.on(x);
        return x;
    }

    private static long answerOf(TapeRings x, Call made) {
        try {
            return made.on(x);
        } catch (NoSuchElementException e) {
            return THROWN;
        }
    }

    private static String told(long answer) {
        return answer == THROWN ? "by NoSuchElementException" : "" + answer;
    }

    private static String firstUnlike(String one, String other) {
        String[] these = one.split("\n");
        String[] those = other.split("\n");
        for (int i = 0; i < these.length && i < those.length; i++) {
            if (!these[i].equals(those[i])) {
                return these[i] + ", and without the call " + those[i];
            }
        }
        return "more can be seen of one";
    }
}
