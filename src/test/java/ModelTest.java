import java.lang.reflect.InvocationTargetException;
import java.lang.reflect.Method;
import java.lang.reflect.Modifier;
import java.util.Arrays;
import java.util.Comparator;
import java.util.List;
import java.util.NoSuchElementException;
import java.util.Random;

/** Random runs of calls: each answer has to be that of Model. The runs are always the same. */
public final class ModelTest {
    private static final long THROWN = Long.MIN_VALUE + 7;
    private static final String[] ATOMS = {"0", "1", "2", "3", "[12]", "[13]", "9", "5", "[1234]"};
    private static final long[] NUMBERS = {Long.MIN_VALUE, Integer.MIN_VALUE, Integer.MIN_VALUE + 1L, -1000000001L, -1023, -2, -1, 0, 1, 2, 3, 4, 5, 6,
        8, 9, 10, 11, 12, 16, 19, 20, 21, 22, 23, 24, 25, 50, 60, 61, 99, 100, 101, 200, 201, 999, 1000, 1022, 1023, 1024, 2000, 2001, 4000, 4001,
        5000, 5001, 100000, 100001, 1000000000, 1000000001, 0x11223344, 0x31313131, 0x31323334, Integer.MAX_VALUE - 1L, Integer.MAX_VALUE,
        1L << 60, (1L << 60) + 1, Long.MAX_VALUE};
    private static final List<Method> METHODS = Arrays.stream(TapeRings.class.getDeclaredMethods())
            .filter(method -> Modifier.isPublic(method.getModifiers())).sorted(Comparator.comparing(Method::toString)).toList();
    private static final String SIGNS = "0123456789[]()*~/ a";

    private final Random random;
    private final TapeRings x = new TapeRings();
    private final Model m = new Model();
    private final Check check;
    private final StringBuilder calls = new StringBuilder();
    private long got;
    private long want;

    private ModelTest(long seed, Check check) {
        this.random = new Random(seed);
        this.check = check;
    }

    public static void main(String[] args) {
        Check check = new Check("ModelTest");
        int runs = args.length > 0 ? Integer.parseInt(args[0]) : 600;
        int first = args.length > 1 ? Integer.parseInt(args[1]) : 0;
        int wrongRuns = 0;
        for (int i = first; i < first + runs && wrongRuns < 5; i++) {
            if (!new ModelTest(i, check).run(i)) {
                wrongRuns++;
            }
        }
        check.end();
    }

    private boolean run(int number) {
        int kind = number % 8;
        int length = 30 + random.nextInt(120);
        for (int i = 0; i < length; i++) {
            calls.setLength(Math.min(calls.length(), 20000));
            step(kind);
            if (got != want) {
                check.fault("run " + number + ":" + calls + " answered " + told(got) + ", due is " + told(want));
                return false;
            }
        }
        check.due(0, "run " + number, 1, 1);
        return true;
    }

    private static String told(long answer) {
        return answer == THROWN ? "NoSuchElementException" : Long.toString(answer);
    }

    private void ask(String call, Check.Call real, Check.Call model) {
        calls.append("\n  ").append(call);
        got = answer(real);
        want = answer(model);
    }

    private static long answer(Check.Call call) {
        try {
            return call.answer();
        } catch (NoSuchElementException e) {
            return THROWN;
        }
    }

    private static long is(boolean b) {
        return b ? 1 : 0;
    }

    /** Mostly from 0 to most, at times just or far beyond. */
    private int any(int most) {
        int r = random.nextInt(40);
        if (r == 0) {
            return -1 - random.nextInt(2);
        }
        if (r == 1) {
            return most + 1;
        }
        if (r == 2) {
            return random.nextInt(10) == 0 ? (random.nextBoolean() ? Integer.MAX_VALUE : Integer.MIN_VALUE) : most;
        }
        return random.nextInt(most + 1);
    }

    private void step(int kind) {
        int r = random.nextInt(20);
        if (kind == 7 && r >= 4) {
            anyCall();
        } else if (r < 7) {
            build(kind);
        } else if (kind == 0 || r == 7) {
            splices();
        } else if (kind == 1 || r == 8) {
            heard();
        } else if (kind == 2 || r == 9) {
            plans();
        } else if (kind == 3 || r == 10) {
            echoes();
        } else if (kind == 4 || r == 11) {
            tapes();
        } else if (kind == 5 || r == 12) {
            pieces();
        } else if (kind == 6 || r == 13) {
            versions();
        } else {
            looks();
        }
    }

    /** Any call with any numbers, most of which stand at the edge of something. */
    private void anyCall() {
        Method real = METHODS.get(random.nextInt(METHODS.size()));
        Class<?>[] types = real.getParameterTypes();
        Object[] values = new Object[types.length];
        for (int i = 0; i < types.length; i++) {
            long n = random.nextInt(3) == 0 ? random.nextInt(4) : NUMBERS[random.nextInt(NUMBERS.length)];
            values[i] = types[i] == boolean.class ? (Object) (n % 2 == 0) : types[i] == long.class ? (Object) n : (Object) (int) n;
        }
        try {
            Method model = Model.class.getDeclaredMethod(real.getName(), types);
            ask(real.getName() + Arrays.toString(values), () -> invoked(real, x, values), () -> invoked(model, m, values));
        } catch (NoSuchMethodException e) {
            throw new IllegalStateException(e);
        }
    }

    private static long invoked(Method method, Object object, Object[] values) {
        try {
            Object answer = method.invoke(object, values);
            return answer instanceof Boolean b ? is(b) : ((Number) answer).longValue();
        } catch (InvocationTargetException e) {
            if (e.getCause() instanceof NoSuchElementException none) {
                throw none;
            }
            throw new IllegalStateException(e.getCause());
        } catch (IllegalAccessException e) {
            throw new IllegalStateException(e);
        }
    }

    private void build(int kind) {
        switch (random.nextInt(12)) {
            case 0, 1 -> newText(strip(kind == 1 ? 6 : 24));
            case 2, 3, 4 -> {
                int motor = any(1);
                int start = any(random.nextInt(24));
                ask("ring(" + motor + ", " + start + ")", () -> x.ring(motor, start), () -> m.ring(motor, start));
            }
            case 5 -> {
                int ring = any(3);
                int inch = any(random.nextInt(24));
                int what = any(1);
                ask("over(" + ring + ", " + inch + ", " + what + ")", () -> x.over(ring, inch, what), () -> m.over(ring, inch, what));
            }
            case 6 -> {
                int ring = any(3);
                int what = any(1);
                int v = any(what == 0 ? 1 : random.nextInt(24));
                ask("set(" + ring + ", " + what + ", " + v + ")", () -> x.set(ring, what, v), () -> m.set(ring, what, v));
            }
            case 7, 8 -> {
                int ring = any(3);
                int offset = any(random.nextBoolean() ? 3 : 23);
                boolean is = random.nextBoolean();
                ask("head(" + ring + ", " + offset + ", " + is + ")", () -> x.head(ring, offset, is), () -> m.head(ring, offset, is));
            }
            case 9, 10 -> {
                int motor = any(1);
                int tick = random.nextInt(30) == 0 ? any(5000) : any(30);
                int speed = any(18) - 9;
                ask("motor(" + motor + ", " + tick + ", " + speed + ")", () -> is(x.motor(motor, tick, speed)), () -> is(m.motor(motor, tick, speed)));
            }
            default -> {
                if (random.nextInt(4) == 0) {
                    ask("clear()", x::clear, m::clear);
                } else {
                    looks();
                }
            }
        }
    }

    private String strip(int most) {
        StringBuilder s = new StringBuilder();
        int n = 1 + random.nextInt(most);
        for (int i = 0; i < n; i++) {
            s.append(ATOMS[random.nextInt(random.nextBoolean() ? 2 : ATOMS.length)]);
        }
        return s.length() > 60 ? "12" : s.toString();
    }

    private void newText(String text) {
        Check.put(x, text);
        m.end(0);
        for (int i = 0; i < text.length(); i += 4) {
            int v = 0;
            for (int j = i; j < i + 4; j++) {
                v = v << 8 | (j < text.length() ? text.charAt(j) : 0);
            }
            m.sign(v);
        }
        m.end(text.length());
        ask("splice of " + text, x::splice, m::splice);
    }

    private String term(int depth) {
        StringBuilder s = new StringBuilder();
        if (depth < 6 && random.nextInt(3) == 0) {
            s.append('(').append(rowText(depth + 1)).append(')');
        } else {
            s.append(ATOMS[random.nextInt(ATOMS.length)]);
        }
        while (random.nextInt(4) == 0) {
            s.append(random.nextBoolean() ? "~" : "*" + (2 + random.nextInt(random.nextInt(8) == 0 ? 8 : 2)));
        }
        return s.toString();
    }

    private String rowText(int depth) {
        StringBuilder s = new StringBuilder(term(depth));
        while (random.nextInt(5) < 3) {
            if (random.nextInt(3) == 0) {
                s.append('/').append(1 + random.nextInt(random.nextInt(6) == 0 ? 9 : 2));
            }
            s.append(term(depth));
        }
        return s.toString();
    }

    private void splices() {
        switch (random.nextInt(8)) {
            case 0 -> {
                int v = random.nextBoolean() ? random.nextInt() : 0x31323334;
                ask("sign(" + v + ")", () -> x.sign(v), () -> m.sign(v));
            }
            case 1 -> {
                int n = any(8);
                ask("end(" + n + ")", () -> is(x.end(n)), () -> is(m.end(n)));
            }
            case 2 -> ask("splice()", x::splice, m::splice);
            case 3 -> {
                StringBuilder s = new StringBuilder(rowText(0));
                if (s.length() > 100) {
                    s.setLength(100);
                }
                s.setCharAt(random.nextInt(s.length()), SIGNS.charAt(random.nextInt(SIGNS.length())));
                newText(s.toString());
            }
            case 4, 5, 6 -> {
                String s = rowText(0);
                newText(s.length() > 100 ? s.substring(0, 100) : s);
            }
            default -> {
                int i = any(23);
                ask("hand(" + i + ")", () -> x.hand(i), () -> m.hand(i));
            }
        }
    }

    private void heard() {
        switch (random.nextInt(10)) {
            case 0 -> {
                int motor = any(1);
                int tick = any(random.nextBoolean() ? 100 : 1000000000);
                ask("way(" + motor + ", " + tick + ")", () -> x.way(motor, tick), () -> m.way(motor, tick));
            }
            case 1, 2 -> {
                int ring = any(4) - 1;
                long tick = random.nextBoolean() ? any(100) : random.nextLong() >> random.nextInt(3);
                ask("heard(" + ring + ", " + tick + ")", () -> x.heard(ring, tick), () -> m.heard(ring, tick));
            }
            case 3 -> ask("all()", x::all, m::all);
            case 4, 5, 6 -> {
                int ring = any(3);
                int bits = random.nextInt(12) == 0 ? any(1023) : new int[] {0, 2, 4, 2, 6}[random.nextInt(5)];
                ask("wish(" + ring + ", " + bits + ")", () -> is(x.wish(ring, bits)), () -> is(m.wish(ring, bits)));
            }
            case 7, 8 -> {
                long from = random.nextInt(4) > 0 ? any(100) : (1L << 60) - random.nextInt(100) + 2;
                ask("meets(" + from + ")", () -> x.meets(from), () -> m.meets(from));
            }
            default -> {
                if (m.all() < 30000) {
                    ask("often()", x::often, m::often);
                }
            }
        }
    }

    private void plans() {
        switch (random.nextInt(10)) {
            case 0, 1, 2 -> {
                int tick = random.nextInt(4) == 0 ? any(100000) : any(20);
                int sound = random.nextInt(6) == 0 ? any(10) : 1 + random.nextInt(3);
                ask("mark(" + tick + ", " + sound + ")", () -> x.mark(tick, sound), () -> m.mark(tick, sound));
            }
            case 3 -> ask("kept()", x::kept, m::kept);
            case 4, 5, 6 -> {
                ask("plan()", x::plan, m::plan);
                sameRow();
            }
            case 7 -> ask("make()", x::make, m::make);
            case 8 -> {
                int ring = any(3);
                int c = any(random.nextInt(24));
                ask("cut(" + ring + ", " + c + ")", () -> x.cut(ring, c), () -> m.cut(ring, c));
            }
            default -> parts();
        }
    }

    private void sameRow() {
        for (int i = 0; i <= m.count(5) && got == want; i++) {
            int at = i;
            ask("row(" + at + ")", () -> x.row(at), () -> m.row(at));
        }
    }

    private void echoes() {
        switch (random.nextInt(8)) {
            case 0 -> {
                int sound = any(10);
                int v = any(200);
                ask("weight(" + sound + ", " + v + ")", () -> x.weight(sound, v), () -> m.weight(sound, v));
            }
            case 1, 2 -> {
                int d = any(20);
                int e = any(20);
                int a = random.nextInt(3) == 0 ? 100 : any(100);
                int b = random.nextInt(3) == 0 ? 100 - a : any(100);
                ask("heads(" + d + ", " + a + ", " + e + ", " + b + ")", () -> is(x.heads(d, a, e, b)), () -> is(m.heads(d, a, e, b)));
            }
            case 3 -> {
                int v = random.nextInt(3) == 0 ? any(2000) : any(30);
                ask("stop(" + v + ")", () -> x.stop(v), () -> m.stop(v));
            }
            case 4, 5 -> {
                int tick = any(random.nextBoolean() ? 40 : 4000);
                ask("out(" + tick + ")", () -> x.out(tick), () -> m.out(tick));
            }
            default -> {
                ask("dies()", x::dies, m::dies);
                sameRow();
            }
        }
    }

    private void tapes() {
        switch (random.nextInt(12)) {
            case 0, 1, 2 -> {
                int bits = random.nextInt(8) == 0 ? any(1023) : new int[] {2, 4, 6, 0, -1}[random.nextInt(5)];
                ask("tape(" + bits + ")", () -> x.tape(bits), () -> m.tape(bits));
            }
            case 3, 4, 5 -> {
                int tick = any(random.nextBoolean() ? 30 : 100000);
                int n = any(60);
                ask("take(" + tick + ", " + n + ")", () -> is(x.take(tick, n)), () -> is(m.take(tick, n)));
            }
            case 6, 7 -> {
                int place = any(random.nextBoolean() ? 10 : 59);
                ask("gap(" + place + ")", () -> is(x.gap(place)), () -> is(m.gap(place)));
            }
            case 8 -> {
                int i = any(random.nextInt(24));
                ask("span(" + i + ")", () -> x.span(i), () -> m.span(i));
            }
            case 9 -> {
                int i = any(random.nextBoolean() ? 2 : 300);
                ask("pair(" + i + ")", () -> x.pair(i), () -> m.pair(i));
            }
            case 10 -> {
                int place = any(random.nextBoolean() ? 10 : 59);
                ask("mended(" + place + ")", () -> x.mended(place), () -> m.mended(place));
            }
            default -> {
                if (random.nextInt(4) == 0) {
                    ask("wipe()", x::wipe, m::wipe);
                }
            }
        }
    }

    private void pieces() {
        switch (random.nextInt(8)) {
            case 0, 1, 2, 3 -> {
                int v = random.nextInt(10) == 0 ? random.nextInt() : digits();
                int n = any(8);
                ask("piece(" + v + ", " + n + ")", () -> x.piece(v, n), () -> m.piece(v, n));
            }
            case 4, 5, 6 -> {
                ask("join()", x::join, m::join);
                sameRow();
            }
            default -> {
                if (random.nextInt(3) == 0) {
                    ask("burn()", x::burn, m::burn);
                }
            }
        }
    }

    private int digits() {
        int v = 0;
        for (int i = 0; i < 8; i++) {
            v = v << 4 | random.nextInt(random.nextInt(5) == 0 ? 10 : 3);
        }
        return v;
    }

    private void versions() {
        switch (random.nextInt(6)) {
            case 0, 1 -> {
                int ring = any(3);
                int day = random.nextInt(10) == 0 ? any(999) : any(random.nextInt(100));
                ask("keep(" + ring + ", " + day + ")", () -> x.keep(ring, day), () -> m.keep(ring, day));
            }
            case 2 -> {
                int ring = any(3);
                int day = any(random.nextInt(1000));
                ask("known(" + ring + ", " + day + ")", () -> x.known(ring, day), () -> m.known(ring, day));
            }
            case 3 -> {
                int version = any(random.nextInt(16));
                ask("fetch(" + version + ")", () -> x.fetch(version), () -> m.fetch(version));
            }
            default -> {
                int a = any(random.nextInt(16));
                int b = any(random.nextInt(16));
                ask("edits(" + a + ", " + b + ")", () -> x.edits(a, b), () -> m.edits(a, b));
            }
        }
    }

    private void looks() {
        if (random.nextBoolean()) {
            parts();
            return;
        }
        int what = any(7);
        ask("count(" + what + ")", () -> x.count(what), () -> m.count(what));
        if (got == want && random.nextBoolean()) {
            int i = any(40);
            ask("row(" + i + ")", () -> x.row(i), () -> m.row(i));
        }
    }

    private void parts() {
        int ring = any(3);
        if (random.nextBoolean()) {
            int what = any(5);
            ask("of(" + ring + ", " + what + ")", () -> x.of(ring, what), () -> m.of(ring, what));
        } else {
            int i = any(23);
            ask("inch(" + ring + ", " + i + ")", () -> x.inch(ring, i), () -> m.inch(ring, i));
        }
    }
}
