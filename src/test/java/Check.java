import java.util.NoSuchElementException;

/** What the tests share: it counts and prints every answer that is not the one that is due. */
final class Check {
    interface Call {
        long answer();
    }

    private final String name;
    private int wrong = 0;
    private int asked = 0;

    Check(String name) {
        this.name = name;
    }

    void due(int promise, String call, long got, long want) {
        asked++;
        if (got != want) {
            wrong++;
            System.out.println("promise " + promise + ": " + call + " answered " + got + ", due is " + want);
        }
    }

    void due(int promise, String call, boolean got, boolean want) {
        due(promise, call, got ? 1 : 0, want ? 1 : 0);
    }

    void throwsNoSuch(int promise, String call, Call made) {
        asked++;
        long got;
        try {
            got = made.answer();
        } catch (NoSuchElementException e) {
            return;
        }
        wrong++;
        System.out.println("promise " + promise + ": " + call + " answered " + got + ", due is NoSuchElementException");
    }

    void fault(String told) {
        wrong++;
        System.out.println(told);
    }

    void end() {
        System.out.println(name + ": " + asked + " asked, " + wrong + " wrong");
        if (wrong != 0) {
            System.exit(1);
        }
    }

    /** Puts a text of any length up to 100 signs. */
    static void put(TapeRings x, String text) {
        x.end(0);
        for (int i = 0; i < text.length(); i += 4) {
            int v = 0;
            for (int j = i; j < i + 4; j++) {
                v = v << 8 | (j < text.length() ? text.charAt(j) & 255 : 0);
            }
            x.sign(v);
        }
        x.end(text.length());
    }

    static int splice(TapeRings x, String text) {
        put(x, text);
        return x.splice();
    }

    static int ring(TapeRings x, String text, int motor, int start) {
        splice(x, text);
        return x.ring(motor, start);
    }

    /** The STRIP IN HAND, as its INCHES with a blank between two. */
    static String inHand(TapeRings x) {
        StringBuilder told = new StringBuilder();
        for (int i = 0; i < x.count(7); i++) {
            told.append(i == 0 ? "" : " ").append(x.hand(i));
        }
        return told.toString();
    }

    static String row(TapeRings x) {
        StringBuilder told = new StringBuilder();
        for (int i = 0; i < x.count(5); i++) {
            told.append(i == 0 ? "" : " ").append(x.row(i));
        }
        return told.toString();
    }

    void dueText(int promise, String call, String got, String want) {
        asked++;
        if (!got.equals(want)) {
            wrong++;
            System.out.println("promise " + promise + ": " + call + " is [" + got + "], due is [" + want + "]");
        }
    }
}
