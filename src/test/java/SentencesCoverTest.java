import java.io.IOException;
import java.lang.reflect.Method;
import java.util.ArrayList;
import java.util.BitSet;
import java.util.List;
import java.util.Map;
import java.util.TreeMap;

/**
 * Each word of the document's promises and terms is said by a test of that number, as is each word of what it is and
 * of what the interface says. What the document leaves free can't be broken, so no test says it.
 */
public final class SentencesCoverTest {
    private static final Check check = new Check("SentencesCoverTest");
    private static final List<Class<?>> ALL = List.of(EdgesOfTermsOneAndTwoTest.class,
            EdgesOfTermsThreeToSevenTest.class, EdgesOfSplicesTest.class, EdgesOfRingsTest.class,
            EdgesOfHeardTest.class, EdgesOfPlansTest.class, EdgesOfEchoesTest.class,
            EdgesOfOldTapesTest.class, EdgesOfPiecesTest.class, EdgesOfVersionsTest.class,
            SentencesOfTermsTest.class, SentencesOfPromisesTest.class, ChangesOfPromisesTest.class);

    private static final Map<String, BitSet> said = new TreeMap<>();

    public static void main(String[] args) throws IOException {
        Document doc = new Document();
        int promises = 0;
        int terms = 0;
        for (String name : doc.names()) {
            said.put(name, new BitSet());
            promises += name.startsWith("promise ") ? 1 : 0;
            terms += name.startsWith("term ") ? 1 : 0;
        }
        check.due(0, "promises of the document", promises, 45);
        check.due(0, "terms of the document", terms, 7);
        for (Method m : tests()) {
            mark(doc, m);
        }
        for (String name : doc.names()) {
            check.dueText(0, "what no test says of " + name, unsaid(doc.part(name), said.get(name)), "");
        }
        check.end();
    }

    private static List<Method> tests() {
        List<Method> found = new ArrayList<>();
        for (Class<?> c : ALL) {
            for (Method m : c.getDeclaredMethods()) {
                check.due(0, m + " is said by a test", m.isAnnotationPresent(Says.class) && !Edges.isTest(m), false);
                if (Edges.isTest(m)) {
                    found.add(m);
                }
            }
        }
        return found;
    }

    private static void mark(Document doc, Method test) {
        Says says = test.getAnnotation(Says.class);
        if (says == null) {
            return;
        }
        String own = test.getName().replaceAll("^(term|promise)(\\d+)_.*", "$1 $2");
        for (String words : says.value()) {
            boolean found = markIn(doc, own, words) || markIn(doc, Document.WHAT_IT_IS, words)
                    || markIn(doc, Document.INTERFACE, words);
            check.due(0, test.getName() + " says what " + own + " says once: " + words, found, true);
        }
    }

    private static boolean markIn(Document doc, String name, String words) {
        String part = doc.part(name);
        int at = part.indexOf(words);
        if (at < 0 || at != part.lastIndexOf(words)) {
            return false;
        }
        said.get(name).set(at, at + words.length());
        return true;
    }

    /** The words that are left: a blank stands for all that is said. */
    private static String unsaid(String part, BitSet marks) {
        StringBuilder left = new StringBuilder();
        for (int i = 0; i < part.length(); i++) {
            boolean counts = Character.isLetterOrDigit(part.charAt(i)) && !marks.get(i);
            left.append(counts ? part.charAt(i) : ' ');
        }
        return left.toString().replaceAll("\\s+", " ").strip();
    }
}
