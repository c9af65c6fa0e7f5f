import java.io.IOException;
import java.nio.file.Files;
import java.nio.file.Path;
import java.util.Map;
import java.util.TreeMap;
import java.util.regex.Matcher;
import java.util.regex.Pattern;

/** ../shared/DOC.md, taken apart: what each promise and each term says, what is said ahead of them and between them. */
final class Document {
    static final String WHAT_IT_IS = "what it is";
    static final String INTERFACE = "what the interface says";

    private final Map<String, String> parts = new TreeMap<>();

    Document() throws IOException {
        String doc = Files.readString(Path.of("../shared/DOC.md"));
        parts.put(WHAT_IT_IS, plain(between(doc, "## What it is\n", "\n## ")));
        terms(between(doc, "\n## Terms\n", "\n## "));
        Matcher m = Pattern.compile("(?s)\n## Promise (\\d+): [^\n]*\n+`[^`]*`:(.*?)(?=\n## )").matcher(doc);
        while (m.find()) {
            parts.put("promise " + m.group(1), plain(m.group(2)));
        }
    }

    private void terms(String told) {
        int others = told.indexOf("\nAhead of the calls");
        parts.put(INTERFACE, plain(told.substring(others)));
        Matcher m = Pattern.compile("(?s)\n(\\d)\\. (.*?)(?=\n\\d\\. |$)").matcher(told.substring(0, others));
        while (m.find()) {
            parts.put("term " + m.group(1), plain(m.group(2)));
        }
    }

    private static String between(String doc, String begin, String end) {
        int from = doc.indexOf(begin) + begin.length();
        return doc.substring(from, doc.indexOf(end, from));
    }

    /** One line, without the marks that only tell how it is to be shown. */
    private static String plain(String told) {
        return told.replace("```text", "").replace("`", "").replaceAll("\\s+", " ").strip();
    }

    Iterable<String> names() {
        return parts.keySet();
    }

    String part(String name) {
        return parts.getOrDefault(name, "");
    }
}
