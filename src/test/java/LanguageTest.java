import java.io.IOException;
import java.lang.management.ManagementFactory;
import java.nio.file.Files;
import java.nio.file.Path;
import java.util.List;
import java.util.regex.Matcher;
import java.util.regex.Pattern;

/** What of ../shared/LANGUAGE.md a program can see: words that the class may not use, how long its methods are, what its calls make. */
public final class LanguageTest {
    private static final Check check = new Check("LanguageTest");
    private static final List<String> FORBIDDEN = List.of("->", "::", "Exact\\(", "\\bcatch\\b", "\\bfinally\\b",
            "\\bsynchronized\\b", "\\bassert\\b", "static \\{", "\\bvar\\b", "\\bObject\\b", "\\.equals\\(", "hashCode",
            "toString", "System\\.(?!arraycopy)", "Math\\.(?!min|max|abs|floorMod|floorDiv)", "Integer\\.(?!bitCount)",
            "Arrays\\.(?!fill|copyOf)", "\\bList\\b", "Thread", "Random", "\\bprotected\\b", "\"");

    public static void main(String[] args) throws IOException {
        String source = Files.readString(Path.of("src/main/java/TapeRings.java"));
        check.due(0, "characters beyond 127", source.chars().filter(c -> c > 127).count(), 0);
        String code = source.replaceAll("(?s)/\\*.*?\\*/", "").replaceAll("//[^\n]*", "");
        words(code);
        methods(code);
        made();
        check.end();
    }

    private static void words(String code) {
        for (String word : FORBIDDEN) {
            check.due(0, "the class says " + word, Pattern.compile(word).matcher(code).find(), false);
        }
        Matcher imports = Pattern.compile("import ([^;]*);").matcher(code);
        while (imports.find()) {
            check.due(0, imports.group(), List.of("java.util.Arrays", "java.util.NoSuchElementException").contains(imports.group(1)), true);
        }
        Matcher thrown = Pattern.compile("throw ([^;]*);").matcher(code);
        while (thrown.find()) {
            check.dueText(0, "what is thrown", thrown.group(1), "new NoSuchElementException()");
        }
        check.due(0, "a package line", code.contains("package "), false);
    }

    private static void methods(String code) {
        String[] lines = code.split("\n");
        int begin = 0;
        for (int i = 0; i < lines.length; i++) {
            if (lines[i].matches("    (    )?\\w.*\\) (throws \\w+ )?\\{")) {
                begin = i;
            }
            if (lines[i].matches("    (    )?\\}")) {
                boolean ofMethod = lines[begin].indexOf(lines[begin].strip()) == lines[i].indexOf('}');
                check.due(0, "a long method at line " + begin, ofMethod && i - begin > 60, false);
            }
        }
    }

    /** All calls of a run share one room, so no call makes anything: the constructor makes all rows. */
    private static void made() {
        var threads = (com.sun.management.ThreadMXBean) ManagementFactory.getThreadMXBean();
        TapeRings x = new TapeRings();
        for (int warm = 0; warm < 2; warm++) {
            long before = threads.getCurrentThreadAllocatedBytes();
            dearCalls(x);
            long bytes = threads.getCurrentThreadAllocatedBytes() - before;
            check.due(0, "calls make " + bytes + " bytes", warm == 0 || bytes < 10000, true);
        }
    }

    private static void dearCalls(TapeRings x) {
        x.clear();
        x.burn();
        x.sign(0x312A392A);
        x.sign(0x32285B34);
        x.sign(0x355D2932);
        x.splice();
        for (int i = 0; i < 5; i++) {
            x.ring(i & 1, 0);
            x.wish(i, 2);
            x.mark(i, 1);
            x.motor(i & 1, 1000 * i, i);
            x.piece(0x12321121 + (i << 28), 8);
            x.keep(i, 999);
        }
        x.stop(2000);
        x.heads(19, 90, 20, 9);
        x.take(7, 60);
        for (int i = 0; i < 20; i++) {
            x.plan();
            x.make();
            x.kept();
            x.join();
            x.dies();
            x.out(4000);
            x.meets(i);
            x.often();
            x.all();
            x.pair(i);
            x.span(i);
            x.mended(i);
            x.edits(0, 1);
            x.known(0, i);
            x.fetch(0);
            x.over(0, 0, 1);
        }
    }
}
