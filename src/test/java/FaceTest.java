import java.lang.reflect.Constructor;
import java.lang.reflect.Field;
import java.lang.reflect.Method;
import java.lang.reflect.Modifier;
import java.nio.file.Files;
import java.nio.file.Path;
import java.util.Set;
import java.util.TreeSet;

/** The public face of the document, and rules of LANGUAGE.md that can be seen from outside. */
final class FaceTest {
    private static final String[] FACE = {
        "int feed(int, int, int, int, int)", "boolean end(int)", "int valley()", "int fault()", "int town(int, int)",
        "int due(int, int)", "int train(int, int)", "int shows(int, int)", "int now(int)", "int bend(int, int)",
        "int shade(int)", "int clear(int)", "int freeze()", "int days(int)", "int undo()", "int noonLong()",
        "int oneNoon()", "int even()", "int evenAt(int)", "int kept()", "int worst(int)", "int spare(int, int)",
        "int route(int, int, int)", "int routeAt(int)", "int shadows()", "int votes(int, int)", "int nearer()",
        "int nearerAt(int)", "int right(int, int)", "int turns(int)", "int motto(int)", "int byteAt(int)",
        "int drawn(int, int)", "int odds(int, int, int)", "int book(int)", "int told(int)", "int sentence()",
        "int said(int)", "boolean image(int)", "boolean restore(int)", "int count(int)"};

    public static void main(String[] args) throws Exception {
        face();
        inside();
        source();
        Check.finish("FaceTest");
    }

    private static void face() {
        Class<?> c = SundialTreaty.class;
        Check.yes("the class is public and final", Modifier.isPublic(c.getModifiers()) && Modifier.isFinal(c.getModifiers()));
        Set<String> want = new TreeSet<>(Set.of(FACE));
        Set<String> names = new TreeSet<>();
        for (Method m : c.getDeclaredMethods()) {
            if (Modifier.isPublic(m.getModifiers())) {
                Check.yes("the document tells " + signature(m), want.remove(signature(m)));
                names.add(m.getName());
            } else {
                Check.yes(m.getName() + " is private", Modifier.isPrivate(m.getModifiers()));
            }
        }
        Check.yes("the class has " + want, want.isEmpty());
        for (Method m : c.getDeclaredMethods()) {
            boolean isOther = !Modifier.isPublic(m.getModifiers());
            Check.no("a private method is named " + m.getName(), isOther && names.contains(m.getName()));
        }
        for (Field f : c.getDeclaredFields()) {
            boolean isNone = f.getName().equals("NONE");
            Check.yes(f.getName() + " is private or NONE", isNone || Modifier.isPrivate(f.getModifiers()));
        }
        for (Constructor<?> k : c.getDeclaredConstructors()) {
            Check.yes("the one constructor", Modifier.isPublic(k.getModifiers()) && k.getParameterCount() == 0);
        }
    }

    private static String signature(Method m) {
        StringBuilder all = new StringBuilder(m.getReturnType().getName()).append(' ').append(m.getName()).append('(');
        for (Class<?> p : m.getParameterTypes()) {
            all.append(all.charAt(all.length() - 1) == '(' ? "" : ", ").append(p.getName());
        }
        return all.append(')').toString();
    }

    private static void inside() {
        Class<?>[] classes = SundialTreaty.class.getDeclaredClasses();
        Check.yes("some twelve classes at most", classes.length <= 11);
        for (Class<?> c : classes) {
            Check.yes(c.getName() + " is static and not public",
                    Modifier.isStatic(c.getModifiers()) && !Modifier.isPublic(c.getModifiers()));
            int fields = 0;
            for (Field f : c.getDeclaredFields()) {
                fields += Modifier.isStatic(f.getModifiers()) ? 0 : 1;
                Check.yes(f + " is final if static", !Modifier.isStatic(f.getModifiers()) || Modifier.isFinal(f.getModifiers()));
            }
            Check.yes(c.getName() + " has twenty fields at most", fields <= 20);
            for (Method m : c.getDeclaredMethods()) {
                Check.yes(m + " takes seven parameters at most", m.getParameterCount() <= 7);
                Check.no(m + " bears a name of the face", isOfFace(m.getName()));
            }
        }
    }

    private static boolean isOfFace(String name) {
        for (String told : FACE) {
            if (told.contains(" " + name + "(")) {
                return true;
            }
        }
        return false;
    }

    private static void source() throws Exception {
        String text = Files.readString(Path.of("src/main/java/SundialTreaty.java"));
        String[] ruledOut = {"->", "::", "catch", "finally", "synchronized", "assert", "instanceof", "static {",
            "System.out", "Math.addExact", "Exact(", "\" +", "+ \"", "package ", "java.lang"};
        for (String word : ruledOut) {
            Check.no("the source has " + word, text.contains(word));
        }
        int imports = 0;
        for (String line : text.split("\n")) {
            imports += line.startsWith("import ") ? 1 : 0;
        }
        Check.eq("imports", imports, 1);
        Check.yes("the one import", text.contains("import java.util.NoSuchElementException;"));
        for (char c : text.toCharArray()) {
            if (c > 127) {
                Check.no("the source has a sign above 127", true);
            }
        }
    }
}
