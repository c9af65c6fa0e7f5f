import java.io.File;
import java.io.IOException;
import java.lang.reflect.Method;
import java.lang.reflect.Modifier;
import java.net.URL;
import java.net.URLClassLoader;
import java.nio.file.Files;
import java.nio.file.Path;
import java.util.ArrayList;
import java.util.List;
import java.util.regex.Matcher;
import java.util.regex.Pattern;
import javax.tools.ToolProvider;

/** The examples of README.md are compiled and run: each call answers what the comment behind it begins with. */
public final class ReadmeTest {
    private static final Check check = new Check("ReadmeTest");
    private static final Pattern CALL = Pattern.compile("(\\S.*\\));\\s+// (-?\\w+)(:.*|,.*|)");

    private static final StringBuilder members = new StringBuilder();
    private static final StringBuilder steps = new StringBuilder();
    private static int calls = 0;

    public static void main(String[] args) throws Exception {
        String readme = Files.readString(Path.of("README.md"));
        Matcher blocks = Pattern.compile("(?s)```java\n(.*?)```").matcher(readme);
        while (blocks.find()) {
            write(blocks.group(1));
        }
        for (String told : run()) {
            check.fault("README.md: " + told);
        }
        check.due(0, "examples with a call", calls > 100, true);
        allCallsAreTold(readme);
        check.end();
    }

    private static void write(String block) {
        if (block.startsWith("static ")) {
            members.append(block);
            return;
        }
        steps.append("{\n");
        for (String line : block.split("\n")) {
            Matcher m = CALL.matcher(line);
            if (m.matches()) {
                calls++;
                steps.append(step(m.group(1), m.group(2)));
            } else {
                check.due(0, "README.md: a call without its answer: " + line, line.contains("//"), false);
                steps.append(line).append('\n');
            }
        }
        steps.append("}\n");
    }

    private static String step(String call, String answer) {
        String quoted = '"' + call.replace("\"", "'") + '"';
        if (answer.equals("NoSuchElementException")) {
            return "try { due(" + quoted + ", \"\" + " + call + ", \"" + answer + "\"); } catch (" + answer + " e) { }\n";
        }
        return "due(" + quoted + ", \"\" + " + call + ", \"" + answer + "\");\n";
    }

    private static List<String> run() throws IOException, ReflectiveOperationException {
        Path dir = Files.createTempDirectory("readme");
        Path file = dir.resolve("Examples.java");
        Files.writeString(file, "import java.util.*;\npublic final class Examples {\n"
                + "public static final List<String> WRONG = new ArrayList<>();\n"
                + "private static void due(String call, String got, String want) {\n"
                + "if (!got.equals(want)) { WRONG.add(call + \" answers \" + got + \", not \" + want); }\n}\n"
                + members + "public static List<String> run() {\n" + steps + "return WRONG;\n}\n}\n");
        int failed = ToolProvider.getSystemJavaCompiler().run(null, null, null, "-cp",
                System.getProperty("java.class.path"), "-d", dir.toString(), file.toString());
        List<String> wrong = new ArrayList<>();
        if (failed != 0) {
            wrong.add("the examples don't compile");
        } else {
            wrong.addAll(runIn(dir));
        }
        for (File f : dir.toFile().listFiles()) {
            f.delete();
        }
        Files.delete(dir);
        return wrong;
    }

    private static List<String> runIn(Path dir) throws IOException, ReflectiveOperationException {
        List<String> wrong = new ArrayList<>();
        try (URLClassLoader loader = new URLClassLoader(new URL[] {dir.toUri().toURL()})) {
            for (Object told : (List<?>) loader.loadClass("Examples").getMethod("run").invoke(null)) {
                wrong.add("" + told);
            }
        }
        return wrong;
    }

    private static void allCallsAreTold(String readme) {
        for (Method m : TapeRings.class.getDeclaredMethods()) {
            if (Modifier.isPublic(m.getModifiers())) {
                boolean tried = Pattern.compile("\\b" + m.getName() + "\\(").matcher(steps).find();
                check.due(0, "an example calls " + m.getName(), tried, true);
                check.due(0, "README.md tells " + m.getName(), readme.contains("`" + m.getName()), true);
            }
        }
    }
}
