import java.util.Arrays;
import java.util.NoSuchElementException;

/** A studio of tape rings: ../shared/DOC.md says what each call answers. */
public final class TapeRings {
    public static final int NONE = -1;

    private static final int SOUNDS = 1022;
    private static final int LAST_SOUND = 9;
    private static final int MOST_INCHES = 24;
    private static final int MOST_SIGNS = 100;
    private static final int MOST_READ = 60;
    private static final int MOST_OPEN = 5;
    private static final int MOST_RINGS = 4;
    private static final int MOTORS = 2;
    private static final int MOST_TOLD = 12;
    private static final int LAST_TOLD = 5000;
    private static final int MOST_SPEED = 9;
    private static final int LAST_WAY = 1000000000;
    private static final long LAST_MEETING = 1L << 60;
    private static final int MOST_MARKS = 6;
    private static final int MARKED = 1 << MOST_MARKS;
    private static final int LAST_MARK = 100000;
    private static final int MOST_CUTS = MOST_INCHES * (MOST_INCHES + 1) / 2;
    private static final int CUT_COST = 5;
    private static final int NEVER = 1000000;
    private static final int MOST_WEIGHT = 200;
    private static final int HUNDRED = 100;
    private static final int MOST_DELAY = 20;
    private static final int LAST_STOP = 2000;
    private static final int LAST_OUT = 4000;
    private static final int LOUDEST = 5000;
    private static final int GOES_ROUND = -2;
    private static final int NOT_SEEN = -3;
    private static final int MOST_PLACES = 60;
    private static final int MOST_PIECES = 5;
    private static final int MOST_DIGITS = 8;
    private static final int MOST_JOINED = MOST_PIECES * MOST_DIGITS;
    private static final int MOST_VERSIONS = 16;
    private static final int LAST_DAY = 999;

    private final Splicer text = new Splicer();
    private final Strip inHand = new Strip();
    private final Studio studio = new Studio();
    private final Meeting meeting = new Meeting();
    private final Planner planner = new Planner();
    private final Echo echo = new Echo();
    private final OldTape old = new OldTape();
    private final Pieces pieces = new Pieces();
    private final Versions versions = new Versions();
    private final int[] told = new int[MOST_JOINED];
    private int toldCount = 0;

    public TapeRings() {
    }

    // ---- splices

    public int sign(int v) {
        return text.add(v);
    }

    public boolean end(int n) {
        return text.keepFirst(n);
    }

    public int splice() {
        return text.putInto(inHand);
    }

    public int hand(int i) {
        return inHand.at(i);
    }

    // ---- rings

    public int ring(int motor, int start) {
        if (!isMotor(motor) || !inHand.has(start)) {
            return NONE;
        }
        return studio.add(inHand, motor, start);
    }

    public int over(int ring, int inch, int what) {
        Ring r = studio.find(ring);
        if (r == null || !r.strip.has(inch) || !within(what, 0, 1) || inHand.length == 0) {
            return NONE;
        }
        return r.layOver(inHand, inch, what == 1);
    }

    public int set(int ring, int what, int v) {
        Ring r = studio.find(ring);
        if (r == null) {
            return NONE;
        }
        int was = NONE;
        if (what == 0 && isMotor(v)) {
            was = r.motor;
            r.motor = v;
        } else if (what == 1 && r.strip.has(v)) {
            was = r.start;
            r.start = v;
        }
        return was;
    }

    public int head(int ring, int offset, boolean is) {
        Ring r = studio.find(ring);
        if (r == null || !within(offset, 0, MOST_INCHES - 1)) {
            return NONE;
        }
        return r.putHead(offset, is);
    }

    public boolean motor(int motor, int tick, int speed) {
        if (!isMotor(motor) || !within(tick, 0, LAST_TOLD) || !within(speed, -MOST_SPEED, MOST_SPEED)) {
            return false;
        }
        return studio.motorOf(motor).tell(tick, speed);
    }

    public int clear() {
        planner.count = 0;
        return studio.empty();
    }

    public int count(int what) {
        switch (what) {
            case 0:
                return studio.count;
            case 1:
                return planner.count;
            case 2:
                return old.count;
            case 3:
                return pieces.count;
            case 4:
                return versions.count;
            case 5:
                return toldCount;
            case 6:
                return text.count;
            case 7:
                return inHand.length;
            default:
                return NONE;
        }
    }

    public int of(int ring, int what) throws NoSuchElementException {
        Ring r = studio.find(ring);
        if (r == null) {
            throw new NoSuchElementException();
        }
        switch (what) {
            case 0:
                return r.strip.length;
            case 1:
                return r.motor;
            case 2:
                return r.start;
            case 3:
                return r.heads;
            case 4:
                return studio.roundOf(r);
            case 5:
                return r.wish;
            default:
                throw new NoSuchElementException();
        }
    }

    public int inch(int ring, int i) {
        Ring r = studio.find(ring);
        return r == null ? NONE : r.strip.at(i);
    }

    // ---- what is heard

    public long way(int motor, int tick) throws NoSuchElementException {
        if (!isMotor(motor) || !within(tick, 0, LAST_WAY)) {
            throw new NoSuchElementException();
        }
        return studio.motorOf(motor).wayTo(tick);
    }

    public int heard(int ring, long tick) {
        if (tick < 0) {
            return NONE;
        }
        if (ring == NONE) {
            return studio.heardInAll(tick);
        }
        Ring r = studio.find(ring);
        return r == null ? NONE : studio.heardOf(r, tick);
    }

    public long all() {
        meeting.look(studio);
        return meeting.allTicks();
    }

    public boolean wish(int ring, int bits) {
        Ring r = studio.find(ring);
        if (r == null || !isSounds(bits)) {
            return false;
        }
        r.wish = bits;
        return true;
    }

    public long meets(long from) {
        if (from < 0 || from > LAST_MEETING) {
            return NONE;
        }
        meeting.look(studio);
        return meeting.first(studio, from);
    }

    public long often() {
        meeting.look(studio);
        return meeting.howOften();
    }

    // ---- plans

    public int mark(int tick, int sound) {
        if (!within(tick, 0, LAST_MARK) || !isSound(sound)) {
            return NONE;
        }
        return planner.add(tick, sound);
    }

    public int kept() {
        return planner.marksTrue(studio);
    }

    public int plan() {
        int sum = planner.find(studio);
        if (sum != NONE) {
            tell(planner.plan, 2 * studio.count);
        }
        return sum;
    }

    public int make() {
        int sum = planner.find(studio);
        if (sum != NONE) {
            planner.carryOut(studio);
        }
        return sum;
    }

    public int cut(int ring, int c) {
        Ring r = studio.find(ring);
        if (r == null || !r.strip.has(c)) {
            return NONE;
        }
        r.cutBy(c);
        return r.strip.length;
    }

    // ---- echoes

    public int weight(int sound, int v) {
        if (!isSound(sound) || !within(v, 0, MOST_WEIGHT)) {
            return NONE;
        }
        return echo.weigh(sound, v);
    }

    public boolean heads(int d, int a, int e, int b) {
        if (!within(d, 1, MOST_DELAY) || !within(a, 0, HUNDRED)
                || !within(e, 1, MOST_DELAY) || !within(b, 0, HUNDRED)) {
            return false;
        }
        echo.place(d, a, e, b);
        return true;
    }

    public int stop(int v) {
        if (!within(v, 0, LAST_STOP)) {
            return NONE;
        }
        int was = echo.stop;
        echo.stop = v;
        return was;
    }

    public int out(int tick) {
        if (!within(tick, 0, LAST_OUT)) {
            return NONE;
        }
        echo.run(studio, tick);
        return echo.outAt(tick);
    }

    public int dies() {
        int answer = echo.fate(studio);
        if (answer == GOES_ROUND) {
            tell(echo.comesBack, 2);
        }
        return answer;
    }

    // ---- old tapes

    public int tape(int bits) {
        return bits == NONE || isSounds(bits) ? old.add(bits) : NONE;
    }

    public boolean take(int tick, int n) {
        if (!within(tick, 0, LAST_MARK) || !within(n, 0, MOST_PLACES)) {
            return false;
        }
        old.count = 0;
        for (int i = 0; i < n; i++) {
            old.add(studio.heardInAll(tick + i));
        }
        return true;
    }

    public boolean gap(int place) {
        return old.makeGap(place);
    }

    public int wipe() {
        int was = old.count;
        old.count = 0;
        return was;
    }

    public int span(int i) {
        return old.spanNumber(i);
    }

    public int pair(int i) {
        return old.pairNumber(i);
    }

    public int mended(int place) {
        return old.mendedAt(place);
    }

    // ---- pieces

    public int piece(int v, int n) {
        return within(n, 1, MOST_DIGITS) ? pieces.add(v, n) : NONE;
    }

    public int burn() {
        int was = pieces.count;
        pieces.count = 0;
        return was;
    }

    public int join() {
        int length = pieces.joinAll();
        tell(pieces.best, length);
        return length;
    }

    // ---- versions

    public int keep(int ring, int day) {
        Ring r = studio.find(ring);
        if (r == null || !within(day, 0, LAST_DAY)) {
            return NONE;
        }
        return versions.add(r.strip, ring, day);
    }

    public int known(int ring, int day) {
        return versions.latest(ring, day);
    }

    public int fetch(int version) {
        Strip strip = versions.find(version);
        if (strip == null) {
            return NONE;
        }
        inHand.copy(strip);
        return inHand.length;
    }

    public int edits(int a, int b) {
        Strip one = versions.find(a);
        Strip other = versions.find(b);
        return one == null || other == null ? NONE : versions.fewestEdits(one, other);
    }

    public int row(int i) throws NoSuchElementException {
        if (i < 0 || i >= toldCount || i >= told.length) {
            throw new NoSuchElementException();
        }
        return told[i];
    }

    private void tell(int[] numbers, int n) {
        toldCount = Math.min(n, Math.min(numbers.length, told.length));
        System.arraycopy(numbers, 0, told, 0, toldCount);
    }

    private static boolean within(int v, int least, int most) {
        return v >= least && v <= most;
    }

    private static boolean isMotor(int motor) {
        return within(motor, 0, MOTORS - 1);
    }

    private static boolean isSound(int sound) {
        return within(sound, 1, LAST_SOUND);
    }

    private static boolean isSounds(int bits) {
        return (bits & ~SOUNDS) == 0;
    }

    /** n by a length, from 0 on, for an n below 0 too. */
    private static int by(long n, int length) {
        if (length < 1) {
            return 0;
        }
        int rest = (int) (n % length);
        return rest < 0 ? rest + length : rest;
    }

    /** The greatest number that divides a length and another number: the length itself, if that is 0. */
    private static int greatestDivisor(int length, long other) {
        for (int d = length; d > 1; d--) {
            if (length % d == 0 && other % d == 0) {
                return d;
            }
        }
        return 1;
    }

    /** A length divided by all that it shares with another number. */
    private static int withoutShared(int length, long other) {
        int shared = greatestDivisor(length, other);
        return shared < 1 ? length : length / shared;
    }

    private static long leastMultiple(long a, int length) {
        return a * withoutShared(length, a);
    }

    /** A row of INCHES; without any it is none. */
    private static final class Strip {
        final int[] inches = new int[MOST_INCHES];
        int length = 0;

        boolean has(int i) {
            return i >= 0 && i < length && i < inches.length;
        }

        int at(int i) {
            return has(i) ? inches[i] : NONE;
        }

        void copy(Strip other) {
            length = other.length;
            System.arraycopy(other.inches, 0, inches, 0, MOST_INCHES);
        }

        void becomeInch(int bits) {
            inches[0] = bits;
            length = 1;
        }

        void addTo(int i, int bits) {
            if (has(i)) {
                inches[i] |= bits;
            }
        }

        /** The caller has asked that what comes of it is no longer than a STRIP can be. */
        void repeat(int times) {
            int whole = Math.min(length * times, inches.length);
            for (int i = length; i < whole; i++) {
                inches[i] = inches[i - length];
            }
            length = whole;
        }

        void turn() {
            for (int i = 0; i < length / 2; i++) {
                int inch = inches[i];
                inches[i] = inches[length - 1 - i];
                inches[length - 1 - i] = inch;
            }
        }

        /** Puts another one behind, laid over the last INCHES here; the caller has asked that both are long enough. */
        void putBehind(Strip other, int shared) {
            int at = Math.max(0, length - shared);
            for (int i = 0; i < other.length && at < inches.length; i++) {
                inches[at] = other.inches[i] | (at < length ? inches[at] : 0);
                at++;
            }
            length = Math.max(length, at);
        }
    }

    /** THE TEXT, and the putting together of a STRIP from it. */
    private static final class Splicer {
        private static final int WRONG = -1;
        private static final int WANTS_ATOM = 0;
        private static final int BEHIND_ATOM = 1;
        private static final int WANTS_TIMES = 2;
        private static final int WANTS_SHARED = 3;
        private static final int WANTS_SOUND = 4;
        private static final int IN_BRACKETS = 5;

        private static final int FINE = 0;
        private static final int LONG = -100;
        private static final int OVER = -101;

        final int[] signs = new int[MOST_SIGNS];
        int count = 0;
        private int level = 0;
        /** The sign that tells what the next digit means: * / [ or 0. */
        private int ahead = 0;
        // of each level of parentheses: what stands of its ROW, the TERM that is being read, over how many INCHES that goes
        private final Strip[] rows = new Strip[MOST_OPEN + 1];
        private final Strip[] terms = new Strip[MOST_OPEN + 1];
        private final int[] shared = new int[MOST_OPEN + 1];

        Splicer() {
            for (int i = 0; i <= MOST_OPEN; i++) {
                rows[i] = new Strip();
                terms[i] = new Strip();
            }
        }

        int add(int v) {
            if (count + 4 > signs.length) {
                return NONE;
            }
            for (int shift = 24; shift >= 0; shift -= 8) {
                signs[count] = (v >>> shift) & 255;
                count++;
            }
            return count;
        }

        boolean keepFirst(int n) {
            if (n < 0 || n > count) {
                return false;
            }
            count = n;
            return true;
        }

        int putInto(Strip result) {
            int wrong = firstWrong();
            int answer = wrong == NONE ? putTogether() : -1 - wrong;
            count = 0;
            if (answer == FINE) {
                result.copy(rows[0]);
                answer = result.length;
            }
            return answer;
        }

        /** The place of the first sign that can't stand where it is, or NONE. */
        private int firstWrong() {
            int state = WANTS_ATOM;
            level = 0;
            for (int i = 0; i < count && i < MOST_READ; i++) {
                state = behind(state, signs[i]);
                if (state == WRONG) {
                    return i;
                }
            }
            if (count > MOST_READ) {
                return MOST_READ;
            }
            return state == BEHIND_ATOM && level == 0 ? NONE : count;
        }

        private int behind(int state, int sign) {
            switch (state) {
                case WANTS_ATOM:
                    return behindAtomStart(sign);
                case BEHIND_ATOM:
                    return behindTermSign(sign);
                case WANTS_TIMES:
                    return isDigit(sign, '2') ? BEHIND_ATOM : WRONG;
                case WANTS_SHARED:
                    return isDigit(sign, '1') ? WANTS_ATOM : WRONG;
                case IN_BRACKETS:
                    if (sign == ']') {
                        return BEHIND_ATOM;
                    }
                    return isDigit(sign, '1') ? IN_BRACKETS : WRONG;
                default:
                    return isDigit(sign, '1') ? IN_BRACKETS : WRONG;
            }
        }

        private int behindAtomStart(int sign) {
            if (isDigit(sign, '0')) {
                return BEHIND_ATOM;
            }
            if (sign == '[') {
                return WANTS_SOUND;
            }
            if (sign == '(' && level < MOST_OPEN) {
                level++;
                return WANTS_ATOM;
            }
            return WRONG;
        }

        private int behindTermSign(int sign) {
            switch (sign) {
                case '~':
                    return BEHIND_ATOM;
                case '*':
                    return WANTS_TIMES;
                case '/':
                    return WANTS_SHARED;
                case ')':
                    level--;
                    return level < 0 ? WRONG : BEHIND_ATOM;
                default:
                    return behindAtomStart(sign);
            }
        }

        private static boolean isDigit(int sign, char least) {
            return sign >= least && sign <= '9';
        }

        /** Puts together a text in which every sign can stand where it is: FINE (it is the first of the rows), LONG or OVER. */
        private int putTogether() {
            level = 0;
            ahead = 0;
            openRow();
            int fault = FINE;
            for (int i = 0; i < count && fault == FINE; i++) {
                fault = isDigit(signs[i], '0') ? readDigit(signs[i] - '0') : readSign(signs[i]);
            }
            return fault == FINE ? layTerm() : fault;
        }

        private int readSign(int sign) {
            switch (sign) {
                case '*':
                    ahead = sign;
                    return FINE;
                case '~':
                    terms[level].turn();
                    return FINE;
                case '/':
                    ahead = sign;
                    return layTerm();
                case '[':
                    ahead = sign;
                    return beginTerm(0);
                case ']':
                    ahead = 0;
                    return FINE;
                case '(':
                    return open();
                case ')':
                    return close();
                default:
                    return FINE;
            }
        }

        private int readDigit(int digit) {
            switch (ahead) {
                case '*':
                    ahead = 0;
                    return repeatTerm(digit);
                case '/':
                    ahead = 0;
                    shared[level] = digit;
                    return digit > rows[level].length ? OVER : FINE;
                case '[':
                    terms[level].addTo(0, 1 << digit);
                    return FINE;
                default:
                    return beginTerm(digit == 0 ? 0 : 1 << digit);
            }
        }

        private int beginTerm(int bits) {
            int fault = layTerm();
            if (fault == FINE) {
                terms[level].becomeInch(bits);
            }
            return fault;
        }

        private int repeatTerm(int times) {
            if (terms[level].length * times > MOST_INCHES) {
                return LONG;
            }
            terms[level].repeat(times);
            return FINE;
        }

        /** The TERM that has been read, if there is one, goes to its ROW. */
        private int layTerm() {
            Strip row = rows[level];
            Strip term = terms[level];
            if (term.length == 0) {
                return FINE;
            }
            int d = shared[level];
            if (d > term.length) {
                return OVER;
            }
            if (row.length + term.length - d > MOST_INCHES) {
                return LONG;
            }
            row.putBehind(term, d);
            term.length = 0;
            shared[level] = 0;
            return FINE;
        }

        private void openRow() {
            rows[level].length = 0;
            terms[level].length = 0;
            shared[level] = 0;
        }

        private int open() {
            int fault = layTerm();
            if (fault == FINE && level < MOST_OPEN) {
                level++;
                openRow();
            }
            return fault;
        }

        private int close() {
            int fault = layTerm();
            if (fault == FINE && level > 0) {
                level--;
                terms[level].copy(rows[level + 1]);
            }
            return fault;
        }
    }

    private static final class Motor {
        private final int[] ticks = new int[MOST_TOLD];
        private final int[] speeds = new int[MOST_TOLD];
        private int count = 0;

        void forget() {
            count = 0;
        }

        boolean tell(int tick, int speed) {
            int at = 0;
            while (at < count && ticks[at] < tick) {
                at++;
            }
            if (at < count && ticks[at] == tick) {
                speeds[at] = speed;
                return true;
            }
            if (count >= MOST_TOLD) {
                return false;
            }
            for (int i = count; i > at; i--) {
                ticks[i] = ticks[i - 1];
                speeds[i] = speeds[i - 1];
            }
            ticks[at] = tick;
            speeds[at] = speed;
            count++;
            return true;
        }

        int steady() {
            return count == 0 ? 0 : ticks[count - 1];
        }

        int lastSpeed() {
            return count == 0 ? 1 : speeds[count - 1];
        }

        long wayTo(long tick) {
            long way = 0;
            long from = 0;
            int speed = 1;
            for (int i = 0; i < count && ticks[i] < tick; i++) {
                way += (ticks[i] - from) * speed;
                from = ticks[i];
                speed = speeds[i];
            }
            return way + (tick - from) * speed;
        }

        /** The WAY by a length: at a very late TICK the WAY itself would not go into a long. */
        int wayBy(long tick, int length) {
            long late = Math.max(0, tick - steady());
            return by(wayTo(tick - late) + (long) by(late, length) * lastSpeed(), length);
        }

        int round(int length) {
            return withoutShared(length, lastSpeed());
        }
    }

    private static final class Ring {
        final Strip strip = new Strip();
        int motor = 0;
        int start = 0;
        int heads = 1;
        int wish = 0;
        /** By the INCH at which offset 0 is: the SOUNDS under all HEADS. */
        private final int[] under = new int[MOST_INCHES];

        void begin(Strip model, int itsMotor, int itsStart) {
            strip.copy(model);
            motor = itsMotor;
            start = itsStart;
            heads = 1;
            wish = 0;
            listen();
        }

        /** Has to follow each change of the STRIP and the HEADS. */
        private void listen() {
            fillUnder(under, strip.length);
        }

        /** The SOUNDS under all HEADS, by the INCH of offset 0, if the RING had its first INCHES alone. */
        void fillUnder(int[] row, int length) {
            for (int at = 0; at < length && at < row.length; at++) {
                row[at] = soundsUnder(at, length);
            }
        }

        private int soundsUnder(int at, int length) {
            int sounds = 0;
            for (int offset = 0; offset < MOST_INCHES; offset++) {
                if (((heads >> offset) & 1) != 0) {
                    sounds |= strip.inches[by(at + offset, length)];
                }
            }
            return sounds;
        }

        int heardBehind(int way) {
            return under[by(start + way, strip.length)];
        }

        int layOver(Strip other, int inch, boolean both) {
            int others = 0;
            for (int i = 0; i < other.length && strip.has(inch + i); i++) {
                int was = strip.inches[inch + i];
                int is = both ? was | other.inches[i] : other.inches[i];
                strip.inches[inch + i] = is;
                others += is == was ? 0 : 1;
            }
            listen();
            return others;
        }

        int putHead(int offset, boolean is) {
            int become = is ? heads | (1 << offset) : heads & ~(1 << offset);
            if (become == 0) {
                return NONE;
            }
            heads = become;
            listen();
            return Integer.bitCount(heads);
        }

        void cutBy(int c) {
            strip.length -= c;
            start = by(start, strip.length);
            listen();
        }
    }

    /** The MOTORS, the RINGS, and what is HEARD of them. */
    private static final class Studio {
        private final Motor[] motors = new Motor[MOTORS];
        private final Ring[] rings = new Ring[MOST_RINGS];
        int count = 0;

        Studio() {
            for (int i = 0; i < MOTORS; i++) {
                motors[i] = new Motor();
            }
            for (int i = 0; i < MOST_RINGS; i++) {
                rings[i] = new Ring();
            }
        }

        Ring find(int ring) {
            return ring >= 0 && ring < count && ring < MOST_RINGS ? rings[ring] : null;
        }

        int add(Strip strip, int motor, int start) {
            if (count >= MOST_RINGS) {
                return NONE;
            }
            rings[count].begin(strip, motor, start);
            count++;
            return count - 1;
        }

        int empty() {
            int was = count;
            count = 0;
            for (int i = 0; i < MOTORS; i++) {
                motors[i].forget();
            }
            return was;
        }

        Motor motorOf(int motor) {
            return motors[motor == 0 ? 0 : 1];
        }

        int steady() {
            return Math.max(motors[0].steady(), motors[1].steady());
        }

        int roundOf(Ring r) {
            return motorOf(r.motor).round(r.strip.length);
        }

        int heardOf(Ring r, long tick) {
            return r.heardBehind(motorOf(r.motor).wayBy(tick, r.strip.length));
        }

        int heardInAll(long tick) {
            int sounds = 0;
            for (int i = 0; i < count; i++) {
                sounds |= heardOf(rings[i], tick);
            }
            return sounds;
        }

        boolean grants(Ring r, long tick) {
            return (r.wish & ~heardOf(r, tick)) == 0;
        }

        boolean meetsAt(long tick) {
            for (int i = 0; i < count; i++) {
                if (!grants(rings[i], tick)) {
                    return false;
                }
            }
            return true;
        }
    }

    /** When the WISH MEETS. */
    private static final class Meeting {
        private int count = 0;
        private long steady = 0;
        private final int[] rounds = new int[MOST_RINGS];
        /** Of each RING: at which TICKS of its ROUND, counted from STEADY, it has its WISH, as bits. */
        private final int[] turns = new int[MOST_RINGS];

        void look(Studio studio) {
            steady = studio.steady();
            count = 0;
            for (int i = 0; i < MOST_RINGS; i++) {
                Ring r = studio.find(i);
                if (r != null) {
                    rounds[i] = studio.roundOf(r);
                    turns[i] = turnsOf(studio, r, rounds[i]);
                    count++;
                }
            }
        }

        private int turnsOf(Studio studio, Ring r, int round) {
            int bits = 0;
            for (int t = 0; t < round; t++) {
                if (studio.grants(r, steady + t)) {
                    bits |= 1 << t;
                }
            }
            return bits;
        }

        long allTicks() {
            long all = 1;
            for (int i = 0; i < count; i++) {
                all = leastMultiple(all, rounds[i]);
            }
            return all;
        }

        /**
         * RINGS hang together only by what their ROUNDS share: of the TICKS that are alike by that,
         * any turn of one RING comes once with any turn of the others.
         */
        long howOften() {
            int together = sharedTicks();
            long sum = 0;
            for (int t = 0; t < together; t++) {
                long product = 1;
                for (int i = 0; i < count; i++) {
                    product *= turnsAlike(i, t, greatestDivisor(rounds[i], together));
                }
                sum += product;
            }
            return sum;
        }

        private int sharedTicks() {
            long together = 1;
            for (int i = 0; i < count; i++) {
                for (int j = i + 1; j < count; j++) {
                    together = leastMultiple(together, greatestDivisor(rounds[i], rounds[j]));
                }
            }
            return (int) together;
        }

        private int turnsAlike(int ring, int tick, int step) {
            int found = 0;
            for (int t = by(tick, step); t < rounds[ring]; t += Math.max(1, step)) {
                found += (turns[ring] >> t) & 1;
            }
            return found;
        }

        /** The first TICK from one on at which it MEETS; look has been called. */
        long first(Studio studio, long from) {
            for (long t = from; t < steady; t++) {
                if (studio.meetsAt(t)) {
                    return t;
                }
            }
            return howOften() == 0 ? NONE : firstSteady(Math.max(from, steady));
        }

        /** Goes on from each TICK to the first at which the RINGS, one by one, could have their WISH. */
        private long firstSteady(long from) {
            long all = allTicks();
            long tick = from;
            for (long tries = 0; tries < all && tick < from + all; tries++) {
                long next = tick;
                for (int i = 0; i < count; i++) {
                    next += ticksToTurn(i, by(next - steady, rounds[i]));
                }
                if (next == tick) {
                    return tick;
                }
                tick = next;
            }
            return NONE;
        }

        private int ticksToTurn(int ring, int turn) {
            int round = rounds[ring];
            for (int w = 0; w < round; w++) {
                if (((turns[ring] >> by(turn + w, round)) & 1) != 0) {
                    return w;
                }
            }
            return round;
        }
    }

    /** The MARKS, and the LEAST PLAN by which they are TRUE. */
    private static final class Planner {
        private final int[] ticks = new int[MOST_MARKS];
        private final int[] sounds = new int[MOST_MARKS];
        int count = 0;
        /** c and new START of each RING. */
        final int[] plan = new int[2 * MOST_RINGS];
        /** Of each RING: by each c and START, in their order, which MARKS become TRUE, as bits. */
        private final int[][] trueBy = new int[MOST_RINGS][MOST_CUTS];
        /** From each RING on: what it costs at least to make these MARKS TRUE. */
        private final int[][] costs = new int[MOST_RINGS + 1][MARKED];
        private final int[] cheapest = new int[MARKED];
        private final int[] under = new int[MOST_INCHES];
        private final int[] ways = new int[MOST_MARKS];

        int add(int tick, int sound) {
            if (count >= MOST_MARKS) {
                return NONE;
            }
            ticks[count] = tick;
            sounds[count] = sound;
            count++;
            return count;
        }

        int marksTrue(Studio studio) {
            int bits = 0;
            for (int m = 0; m < count; m++) {
                bits |= ((studio.heardInAll(ticks[m]) >> sounds[m]) & 1) << m;
            }
            return bits;
        }

        /** The sum of the LEAST PLAN, or NONE. */
        int find(Studio studio) {
            int rings = studio.count;
            Arrays.fill(costs[rings], NEVER);
            costs[rings][0] = 0;
            for (int i = rings - 1; i >= 0; i--) {
                Ring r = studio.find(i);
                if (r != null) {
                    listTrue(r, studio.motorOf(r.motor), trueBy[i]);
                    listCheapest(r, trueBy[i]);
                    addCosts(costs[i + 1], costs[i]);
                }
            }
            int wanted = (1 << count) - 1;
            int sum = costs[0][wanted];
            if (sum >= NEVER) {
                return NONE;
            }
            for (int i = 0; i < rings; i++) {
                wanted = choose(studio.find(i), i, wanted);
            }
            return sum;
        }

        private void listTrue(Ring r, Motor motor, int[] marks) {
            int k = 0;
            for (int left = r.strip.length; left > 0; left--) {
                r.fillUnder(under, left);
                for (int m = 0; m < count; m++) {
                    ways[m] = motor.wayBy(ticks[m], left);
                }
                for (int start = 0; start < left && k < marks.length; start++) {
                    marks[k] = trueFrom(start, left);
                    k++;
                }
            }
        }

        private int trueFrom(int start, int length) {
            int bits = 0;
            for (int m = 0; m < count; m++) {
                bits |= ((under[by(start + ways[m], length)] >> sounds[m]) & 1) << m;
            }
            return bits;
        }

        private void listCheapest(Ring r, int[] marks) {
            Arrays.fill(cheapest, NEVER);
            int k = 0;
            for (int c = 0; c < r.strip.length; c++) {
                for (int start = 0; start < r.strip.length - c && k < marks.length; start++) {
                    cheapest[marks[k]] = Math.min(cheapest[marks[k]], cost(r, c, start));
                    k++;
                }
            }
        }

        private static int cost(Ring r, int c, int start) {
            return CUT_COST * c + Math.abs(start - r.start);
        }

        private void addCosts(int[] behind, int[] here) {
            int sets = 1 << count;
            for (int wanted = 0; wanted < sets; wanted++) {
                int least = NEVER;
                for (int got = 0; got < sets; got++) {
                    least = Math.min(least, cheapest[got] + behind[wanted & ~got]);
                }
                here[wanted] = least;
            }
        }

        /** Plans one RING, the RINGS ahead of it being planned: the MARKS that are left to those behind. */
        private int choose(Ring r, int ring, int wanted) {
            if (r == null) {
                return wanted;
            }
            int k = 0;
            for (int c = 0; c < r.strip.length; c++) {
                for (int start = 0; start < r.strip.length - c && k < MOST_CUTS; start++) {
                    int rest = wanted & ~trueBy[ring][k];
                    k++;
                    if (cost(r, c, start) + costs[ring + 1][rest] == costs[ring][wanted]) {
                        plan[2 * ring] = c;
                        plan[2 * ring + 1] = start;
                        return rest;
                    }
                }
            }
            return wanted;
        }

        void carryOut(Studio studio) {
            for (int i = 0; i < MOST_RINGS; i++) {
                Ring r = studio.find(i);
                if (r != null) {
                    r.cutBy(plan[2 * i]);
                    r.start = plan[2 * i + 1];
                }
            }
        }
    }

    private static final class Echo {
        int stop = 0;
        /** The first TICK from which on OUT comes back, and in how many TICKS. */
        final int[] comesBack = new int[2];
        private final int[] weights = new int[LAST_SOUND + 1];
        private int firstDelay = 1;
        private int firstGain = 0;
        private int secondDelay = 1;
        private int secondGain = 0;
        private final int[] outs = new int[LAST_OUT + 1];

        Echo() {
            Arrays.fill(weights, HUNDRED);
        }

        int weigh(int sound, int v) {
            int was = weights[sound];
            weights[sound] = v;
            return was;
        }

        void place(int d, int a, int e, int b) {
            firstDelay = d;
            firstGain = a;
            secondDelay = e;
            secondGain = b;
        }

        void run(Studio studio, int last) {
            for (int t = 0; t <= last && t < outs.length; t++) {
                int input = t < stop ? loudness(studio.heardInAll(t)) : 0;
                int sum = input + behind(t - firstDelay, firstGain) + behind(t - secondDelay, secondGain);
                outs[t] = Math.min(sum, LOUDEST);
            }
        }

        private int loudness(int bits) {
            int sum = 0;
            for (int sound = 1; sound <= LAST_SOUND; sound++) {
                sum += ((bits >> sound) & 1) * weights[sound];
            }
            return sum;
        }

        private int behind(int tick, int gain) {
            return outAt(tick) * gain / HUNDRED;
        }

        int outAt(int tick) {
            return tick >= 0 && tick < outs.length ? outs[tick] : 0;
        }

        /** The TICK at which it DIES, GOES_ROUND (told in comesBack) or NOT_SEEN. */
        int fate(Studio studio) {
            run(studio, LAST_OUT);
            int death = firstSilence();
            if (death != NONE) {
                return death;
            }
            int ticks = comesBackIn();
            if (ticks == NONE) {
                return NOT_SEEN;
            }
            int first = LAST_OUT - ticks;
            while (first > stop && outAt(first - 1) == outAt(first - 1 + ticks)) {
                first--;
            }
            comesBack[0] = first;
            comesBack[1] = ticks;
            return GOES_ROUND;
        }

        private int firstSilence() {
            int silent = 0;
            for (int t = stop; t <= LAST_OUT; t++) {
                silent = outAt(t) == 0 ? silent + 1 : 0;
                if (silent == MOST_DELAY) {
                    return t - MOST_DELAY + 1;
                }
            }
            return NONE;
        }

        /** What goes round does so at the end of what is seen: in how many TICKS the last ones come, or NONE. */
        private int comesBackIn() {
            int last = LAST_OUT - MOST_DELAY + 1;
            for (int ticks = 1; last - ticks >= stop; ticks++) {
                if (alike(last, last - ticks)) {
                    return ticks;
                }
            }
            return NONE;
        }

        private boolean alike(int one, int other) {
            for (int i = 0; i < MOST_DELAY; i++) {
                if (outAt(one + i) != outAt(other + i)) {
                    return false;
                }
            }
            return true;
        }
    }

    private static final class OldTape {
        private final int[] places = new int[MOST_PLACES];
        int count = 0;
        private final int[] first = new int[MOST_INCHES];
        private final int[] second = new int[MOST_INCHES];

        int add(int bits) {
            if (count >= MOST_PLACES) {
                return NONE;
            }
            places[count] = bits;
            count++;
            return count;
        }

        boolean makeGap(int place) {
            if (place < 0 || place >= count) {
                return false;
            }
            places[place] = NONE;
            return true;
        }

        int spanNumber(int i) {
            int found = 0;
            for (int p = 1; p <= MOST_INCHES; p++) {
                if (spanFits(p)) {
                    if (found == i) {
                        return p;
                    }
                    found++;
                }
            }
            return NONE;
        }

        private boolean spanFits(int p) {
            Arrays.fill(first, NONE);
            for (int t = 0; t < count; t++) {
                int i = by(t, p);
                if (first[i] == NONE) {
                    first[i] = places[t];
                } else if (places[t] != NONE && places[t] != first[i]) {
                    return false;
                }
            }
            return true;
        }

        /** The PAIR is left standing as its greatest STRIPS, first and second. */
        int pairNumber(int i) {
            int found = 0;
            for (int sum = 2; sum <= 2 * MOST_INCHES; sum++) {
                for (int p = Math.max(1, sum - MOST_INCHES); p <= sum - p; p++) {
                    if (pairFits(p, sum - p)) {
                        if (found == i) {
                            return 100 * p + sum - p;
                        }
                        found++;
                    }
                }
            }
            return NONE;
        }

        private boolean pairFits(int p, int q) {
            makeGreatest(first, p);
            makeGreatest(second, q);
            for (int t = 0; t < count; t++) {
                if (places[t] != NONE && (first[by(t, p)] | second[by(t, q)]) != places[t]) {
                    return false;
                }
            }
            return true;
        }

        /** The STRIP of all SOUNDS that no place forbids. */
        private void makeGreatest(int[] strip, int length) {
            Arrays.fill(strip, SOUNDS);
            for (int t = 0; t < count; t++) {
                if (places[t] != NONE) {
                    strip[by(t, length)] &= places[t];
                }
            }
        }

        int mendedAt(int place) {
            if (place < 0 || place >= count) {
                return NONE;
            }
            int pair = pairNumber(0);
            if (pair == NONE) {
                return NONE;
            }
            return first[by(place, pair / 100)] | second[by(place, pair % 100)];
        }
    }

    private static final class Pieces {
        int count = 0;
        final int[] best = new int[MOST_JOINED];
        private int bestLength = 0;
        private final int[][] sounds = new int[MOST_PIECES][MOST_DIGITS];
        private final int[] lengths = new int[MOST_PIECES];
        private final int[] laid = new int[MOST_JOINED];

        int add(int v, int n) {
            if (count >= MOST_PIECES) {
                return NONE;
            }
            for (int i = 0; i < n; i++) {
                int digit = digit(v, i);
                if (digit > LAST_SOUND) {
                    return NONE;
                }
                sounds[count][i] = digit;
            }
            lengths[count] = n;
            count++;
            return count - 1;
        }

        private static int digit(int v, int i) {
            return (v >>> (28 - 4 * i)) & 15;
        }

        /** How many SOUNDS the SHORTEST has, which stands in best then. */
        int joinAll() {
            bestLength = MOST_JOINED + 1;
            layRest(this, 0, 0, 0);
            return bestLength;
        }

        /** Tries all that can follow what is laid: no piece makes that shorter, so what is too long already is left. */
        private static void layRest(Pieces p, int depth, int used, int length) {
            if (length > p.bestLength) {
                return;
            }
            if (depth >= p.count || depth >= MOST_PIECES) {
                p.keepBetter(length);
                return;
            }
            for (int piece = 0; piece < p.count; piece++) {
                if (((used >> piece) & 1) == 0) {
                    int withIt = used | (1 << piece);
                    layRest(p, depth + 1, withIt, p.layPiece(piece, false, length));
                    layRest(p, depth + 1, withIt, p.layPiece(piece, true, length));
                }
            }
        }

        /** Lays a piece over the end of the first SOUNDS that are laid: how many there are then. */
        private int layPiece(int piece, boolean turned, int length) {
            int shared = Math.min(length, lengths[piece]);
            while (shared > 0 && !alike(piece, turned, length, shared)) {
                shared--;
            }
            int from = length - shared;
            for (int i = shared; i < lengths[piece]; i++) {
                laid[from + i] = sound(piece, turned, i);
            }
            return from + lengths[piece];
        }

        private boolean alike(int piece, boolean turned, int length, int shared) {
            for (int i = 0; i < shared; i++) {
                if (laid[length - shared + i] != sound(piece, turned, i)) {
                    return false;
                }
            }
            return true;
        }

        private int sound(int piece, boolean turned, int i) {
            return sounds[piece][turned ? lengths[piece] - 1 - i : i];
        }

        private void keepBetter(int length) {
            if (length < bestLength || (length == bestLength && laidIsLess(length))) {
                bestLength = length;
                System.arraycopy(laid, 0, best, 0, length);
            }
        }

        private boolean laidIsLess(int length) {
            for (int i = 0; i < length; i++) {
                if (laid[i] != best[i]) {
                    return laid[i] < best[i];
                }
            }
            return false;
        }
    }

    private static final class Versions {
        int count = 0;
        private final Strip[] strips = new Strip[MOST_VERSIONS];
        private final int[] rings = new int[MOST_VERSIONS];
        private final int[] days = new int[MOST_VERSIONS];
        private final int[] steps = new int[MOST_INCHES + 1];

        Versions() {
            for (int i = 0; i < MOST_VERSIONS; i++) {
                strips[i] = new Strip();
            }
        }

        int add(Strip strip, int ring, int day) {
            if (count >= MOST_VERSIONS || (count > 0 && day < days[count - 1])) {
                return NONE;
            }
            strips[count].copy(strip);
            rings[count] = ring;
            days[count] = day;
            count++;
            return count - 1;
        }

        Strip find(int version) {
            return version >= 0 && version < count && version < MOST_VERSIONS ? strips[version] : null;
        }

        int latest(int ring, int day) {
            for (int i = count - 1; i >= 0; i--) {
                if (rings[i] == ring && days[i] <= day) {
                    return i;
                }
            }
            return NONE;
        }

        int fewestEdits(Strip one, Strip other) {
            int fewest = Math.max(one.length, other.length);
            for (int turn = 0; turn < other.length; turn++) {
                fewest = Math.min(fewest, editsTurned(one, other, turn));
            }
            return fewest;
        }

        /** The EDITS by the usual table, of which one row stands: what it takes from the first INCHES here to those there. */
        private int editsTurned(Strip one, Strip other, int turn) {
            for (int j = 0; j <= other.length; j++) {
                steps[j] = j;
            }
            for (int i = 0; i < one.length; i++) {
                int slant = steps[0];
                steps[0] = i + 1;
                for (int j = 0; j < other.length; j++) {
                    boolean same = one.inches[i] == other.inches[by(turn + j, other.length)];
                    int changed = same ? slant : slant + 1;
                    slant = steps[j + 1];
                    steps[j + 1] = Math.min(changed, 1 + Math.min(slant, steps[j]));
                }
            }
            return steps[other.length];
        }
    }
}
