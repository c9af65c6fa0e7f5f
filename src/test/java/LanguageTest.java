import java.io.IOException;
import java.io.PrintWriter;
import java.io.StringWriter;
import java.lang.management.ManagementFactory;
import java.lang.reflect.Field;
import java.lang.reflect.Method;
import java.nio.file.Files;
import java.nio.file.Path;
import java.util.ArrayList;
import java.util.List;
import java.util.Map;
import java.util.Set;
import java.util.TreeMap;
import java.util.TreeSet;
import java.util.regex.Matcher;
import java.util.regex.Pattern;
import java.util.spi.ToolProvider;

/**
 * What of ../shared/LANGUAGE.md a program can see: words that the class may not use, its types, how long its methods
 * are and how deep they call one another, what its calls make.
 */
public final class LanguageTest {
    private static final Check check = new Check("LanguageTest");
    private static final String RECURSION = "TapeRings$Pieces.layRest";
    private static final List<String> FORBIDDEN = List.of("->", "::", "Exact\\(", "\\bcatch\\b", "\\bfinally\\b",
            "\\bsynchronized\\b", "\\bassert\\b", "static \\{", "\\bvar\\b", "\\bObject\\b", "\\.equals\\(", "hashCode",
            "toString", "System\\.(?!arraycopy)", "Math\\.(?!min|max|abs|floorMod|floorDiv)", "Integer\\.(?!bitCount)",
            "Arrays\\.(?!fill|copyOf)", "\\bList\\b", "Thread", "Random", "\\bprotected\\b", "\"");

    public static void main(String[] args) throws IOException {
        String source = Files.readString(Path.of("src/main/java/TapeRings.java"));
        check.due(0, "characters beyond 127", source.chars().filter(c -> c > 127).count(), 0);
        String code = source.replaceAll("(?s)/\\*.*?\\*/", "").replaceAll("//[^\n]*", "");
        words(code);
        methods(code);
        types(TapeRings.class);
        for (Class<?> inside : TapeRings.class.getDeclaredClasses()) {
            types(inside);
        }
        depths();
        made();
        check.end();
    }

    private static void words(String code) {
        for (String word : FORBIDDEN) {
            check.due(0, "the class says " + word, Pattern.compile(word).matcher(code).find(), false);
        }
        Matcher imports = Pattern.compile("import ([^;]*);").matcher(code);
        while (imports.find()) {
            check.due(0, imports.group(), List.of("java.util.Arrays", "java.util.NoSuchElementException").contains(imports.group(1)), true);
        }
        Matcher thrown = Pattern.compile("throw ([^;]*);").matcher(code);
        while (thrown.find()) {
            check.dueText(0, "what is thrown", thrown.group(1), "new NoSuchElementException()");
        }
        check.due(0, "a package line", code.contains("package "), false);
    }

    private static void methods(String code) {
        String[] lines = code.split("\n");
        int begin = 0;
        for (int i = 0; i < lines.length; i++) {
            if (lines[i].matches("    (    )?\\w.*\\) (throws \\w+ )?\\{")) {
                begin = i;
            }
            if (lines[i].matches("    (    )?\\}")) {
                boolean ofMethod = lines[begin].indexOf(lines[begin].strip()) == lines[i].indexOf('}');
                check.due(0, "a long method at line " + begin, ofMethod && i - begin > 60, false);
            }
        }
    }

    private static void types(Class<?> c) {
        List<Class<?>> used = new ArrayList<>();
        for (Field f : c.getDeclaredFields()) {
            used.add(f.getType());
        }
        for (Method m : c.getDeclaredMethods()) {
            used.add(m.getReturnType());
            used.addAll(List.of(m.getParameterTypes()));
        }
        for (Class<?> type : used) {
            check.due(0, c + " uses " + type, isAllowed(type), true);
        }
    }

    /** Numbers and own classes, rows of these, rows of rows of numbers. */
    private static boolean isAllowed(Class<?> type) {
        if (!type.isArray()) {
            return type.isPrimitive() || type.getName().startsWith("TapeRings$");
        }
        Class<?> inner = type.getComponentType();
        return inner.isArray() ? inner.getComponentType().isPrimitive() : isAllowed(inner);
    }

    /** No call goes more than eight deep, the library's functions counted; one method alone calls itself. */
    private static void depths() {
        ToolProvider javap = ToolProvider.findFirst("javap").orElse(null);
        if (javap == null) {
            System.out.println("without javap nothing tells how deep calls go");
            return;
        }
        Map<String, Set<String>> calls = callsOfAll(javap);
        check.due(0, "methods that javap tells", calls.size() > 100, true);
        for (String method : calls.keySet()) {
            check.due(0, method + " goes deep: " + depth(calls, method, 0), depth(calls, method, 0) <= 8, true);
            check.due(0, method + " calls itself", calls.get(method).contains(method), method.equals(RECURSION));
        }
    }

    private static Map<String, Set<String>> callsOfAll(ToolProvider javap) {
        Map<String, Set<String>> calls = new TreeMap<>();
        List<Class<?>> classes = new ArrayList<>(List.of(TapeRings.class.getDeclaredClasses()));
        classes.add(TapeRings.class);
        for (Class<?> c : classes) {
            StringWriter told = new StringWriter();
            PrintWriter out = new PrintWriter(told);
            javap.run(out, out, "-c", "-p", "-cp", System.getProperty("java.class.path"), c.getName());
            String method = "";
            for (String line : told.toString().split("\n")) {
                Matcher head = Pattern.compile("  \\S.*?([\\w$]+)\\(.*").matcher(line);
                Matcher call = Pattern.compile(".*// Method (?:([\\w$/]+)\\.)?\"?([\\w<>]+)\"?:.*").matcher(line);
                if (head.matches()) {
                    method = c.getName() + "." + head.group(1);
                    calls.put(method, new TreeSet<>());
                } else if (call.matches()) {
                    String of = call.group(1) == null ? c.getName() : call.group(1).replace('/', '.');
                    calls.get(method).add(of + "." + call.group(2));
                }
            }
        }
        return calls;
    }

    private static int depth(Map<String, Set<String>> calls, String method, int ahead) {
        int deepest = 0;
        for (String called : calls.getOrDefault(method, Set.of())) {
            if (!called.equals(method) && ahead < 50) {
                deepest = Math.max(deepest, depth(calls, called, ahead + 1));
            }
        }
        return deepest + 1;
    }

    /** All calls of a run share one room, so no call makes anything: the constructor makes all rows. */
    private static void made() {
        var threads = (com.sun.management.ThreadMXBean) ManagementFactory.getThreadMXBean();
        TapeRings x = new TapeRings();
        for (int warm = 0; warm < 2; warm++) {
            long ahead = threads.getCurrentThreadAllocatedBytes();
            TapeRings y = new TapeRings();
            long made = threads.getCurrentThreadAllocatedBytes() - ahead;
            check.due(0, "an object holds " + made + " bytes", warm == 0 || made < 60000, true);
            check.due(0, "rings of a new one", y.count(0), 0);
            long before = threads.getCurrentThreadAllocatedBytes();
            dearCalls(x);
            long bytes = threads.getCurrentThreadAllocatedBytes() - before;
            check.due(0, "calls make " + bytes + " bytes", warm == 0 || bytes < 10000, true);
        }
    }

    private static void dearCalls(TapeRings x) {
        x.clear();
        x.burn();
        x.sign(0x312A392A);
        x.sign(0x32285B34);
        x.sign(0x355D2932);
        x.splice();
        for (int i = 0; i < 5; i++) {
            x.ring(i & 1, 0);
            x.wish(i, 2);
            x.mark(i, 1);
            x.motor(i & 1, 1000 * i, i);
            x.piece(0x12321121 + (i << 28), 8);
            x.keep(i, 999);
        }
        x.stop(2000);
        x.heads(19, 90, 20, 9);
        x.take(7, 60);
        for (int i = 0; i < 20; i++) {
            x.plan();
            x.make();
            x.kept();
            x.join();
            x.dies();
            x.out(4000);
            x.meets(i);
            x.often();
            x.all();
            x.pair(i);
            x.span(i);
            x.mended(i);
            x.edits(0, 1);
            x.known(0, i);
            x.fetch(0);
            x.over(0, 0, 1);
        }
    }
}
