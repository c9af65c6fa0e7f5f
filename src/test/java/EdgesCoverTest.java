import java.lang.reflect.Method;
import java.util.List;

/** Each promise and each term of the document has tests of its edges. */
public final class EdgesCoverTest {
    private static final Check check = new Check("EdgesCoverTest");
    private static final List<Class<?>> ALL = List.of(EdgesOfTermsOneAndTwoTest.class,
            EdgesOfTermsThreeToSevenTest.class, EdgesOfSplicesTest.class, EdgesOfRingsTest.class,
            EdgesOfHeardTest.class, EdgesOfPlansTest.class, EdgesOfEchoesTest.class,
            EdgesOfOldTapesTest.class, EdgesOfPiecesTest.class, EdgesOfVersionsTest.class);

    public static void main(String[] args) {
        for (int n = 1; n <= 45; n++) {
            check.due(n, "tests of its edges", testsOf("promise", n) > 0, true);
        }
        for (int n = 1; n <= 7; n++) {
            check.due(n, "tests of the term's edges", testsOf("term", n) > 0, true);
        }
        check.end();
    }

    private static int testsOf(String what, int number) {
        int found = 0;
        for (Class<?> c : ALL) {
            for (Method m : c.getDeclaredMethods()) {
                if (Edges.isTest(m) && m.getName().startsWith(what) && Edges.numberOf(m) == number) {
                    found++;
                }
            }
        }
        return found;
    }
}
