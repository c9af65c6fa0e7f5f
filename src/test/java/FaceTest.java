import java.io.IOException;
import java.lang.reflect.Constructor;
import java.lang.reflect.Field;
import java.lang.reflect.Method;
import java.lang.reflect.Modifier;
import java.nio.file.Files;
import java.nio.file.Path;
import java.util.Set;
import java.util.TreeSet;

/** The public face is that of the document, and nothing else can be seen from outside. */
public final class FaceTest {
    private static final Check check = new Check("FaceTest");

    public static void main(String[] args) throws IOException {
        Set<String> told = toldFace();
        check.due(1, "members that the document tells", told.size(), 46);
        Set<String> seen = seenFace();
        for (String member : told) {
            check.due(1, "the class has " + member, seen.contains(member), true);
        }
        for (String member : seen) {
            check.due(1, "the document has " + member, told.contains(member), true);
        }
        check.due(1, "public and final", TapeRings.class.getModifiers(), Modifier.PUBLIC | Modifier.FINAL);
        check.due(1, "no package", TapeRings.class.getPackageName().length(), 0);
        insides(names());
        check.end();
    }

    private static Set<String> toldFace() throws IOException {
        String doc = Files.readString(Path.of("../shared/DOC.md"));
        String block = doc.substring(doc.indexOf("public final class TapeRings {"));
        Set<String> face = new TreeSet<>();
        for (String line : block.substring(block.indexOf('\n'), block.indexOf("\n}")).split("\n")) {
            String member = line.replaceAll("(\\w+) \\w+(?=[,)])", "$1").replaceAll(" = .*", "").replace(";", "").strip();
            if (!member.isEmpty()) {
                face.add(member);
            }
        }
        return face;
    }

    private static Set<String> seenFace() {
        Set<String> face = new TreeSet<>();
        for (Constructor<?> c : TapeRings.class.getDeclaredConstructors()) {
            face.add(said(c.toString()));
        }
        for (Method m : TapeRings.class.getDeclaredMethods()) {
            if (!Modifier.isPrivate(m.getModifiers())) {
                face.add(said(m.toString()));
            }
        }
        for (Field f : TapeRings.class.getDeclaredFields()) {
            if (!Modifier.isPrivate(f.getModifiers())) {
                face.add(said(f.toString()));
            }
        }
        return face;
    }

    private static String said(String member) {
        return member.replace("TapeRings.", "").replace("java.util.", "").replace(",", ", ");
    }

    private static Set<String> names() {
        Set<String> names = new TreeSet<>();
        for (Method m : TapeRings.class.getDeclaredMethods()) {
            if (Modifier.isPublic(m.getModifiers())) {
                names.add(m.getName());
            }
        }
        return names;
    }

    private static void insides(Set<String> names) {
        Class<?>[] inside = TapeRings.class.getDeclaredClasses();
        check.due(1, "some twelve classes", inside.length <= 12, true);
        for (Class<?> c : inside) {
            check.due(1, c + " can't be seen", Modifier.isPublic(c.getModifiers()), false);
            privateNames(c, names);
            states(c);
        }
        privateNames(TapeRings.class, names);
        states(TapeRings.class);
    }

    private static void privateNames(Class<?> c, Set<String> names) {
        for (Method m : c.getDeclaredMethods()) {
            boolean hidden = Modifier.isPrivate(m.getModifiers());
            check.due(1, "a private method bears a public name: " + m, hidden && names.contains(m.getName()), false);
            check.due(1, "at most seven parameters: " + m, m.getParameterCount() <= 7, true);
        }
    }

    private static void states(Class<?> c) {
        int fields = 0;
        for (Field f : c.getDeclaredFields()) {
            boolean isStatic = Modifier.isStatic(f.getModifiers());
            check.due(1, "a static field that is not final: " + f, isStatic && !Modifier.isFinal(f.getModifiers()), false);
            fields += isStatic ? 0 : 1;
        }
        check.due(1, "some twenty fields: " + c, fields <= 20, true);
    }
}
