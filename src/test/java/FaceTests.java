import java.lang.reflect.Constructor;
import java.lang.reflect.Field;
import java.lang.reflect.Method;
import java.lang.reflect.Modifier;
import java.io.IOException;
import java.nio.file.Files;
import java.nio.file.Path;
import java.util.ArrayList;
import java.util.Arrays;
import java.util.List;
import java.util.TreeSet;
import java.util.regex.Matcher;
import java.util.regex.Pattern;

/** The face is the document's and nothing more; and no name of it is used twice. */
public final class FaceTests {
    private static final Path DOCUMENT = Path.of("../shared/DOC.md");

    private FaceTests() {
    }

    public static void main(String[] args) throws IOException {
        faceIsTheDocuments();
        nothingElseIsSeen();
        namesAreNotReused();
        System.out.println("FaceTests");
        Check.end();
    }

    private static String list(Class<?>[] types) {
        List<String> names = new ArrayList<>();
        for (Class<?> type : types) {
            names.add(type.getSimpleName());
        }
        return String.join(", ", names);
    }

    private static void faceIsTheDocuments() throws IOException {
        TreeSet<String> want = new TreeSet<>();
        Pattern method = Pattern.compile("^    public (int|void) (\\w+)\\((.*)\\)(?: throws (.*))?;$");
        for (String line : Files.readAllLines(DOCUMENT)) {
            Matcher matcher = method.matcher(line);
            if (matcher.matches()) {
                String types = matcher.group(3).replaceAll(" \\w+(,|$)", "$1");
                String thrown = matcher.group(4) == null ? "" : matcher.group(4);
                want.add(matcher.group(1) + " " + matcher.group(2) + "(" + types + ") " + thrown);
            }
        }
        TreeSet<String> got = new TreeSet<>();
        for (Method m : Stratalog.class.getDeclaredMethods()) {
            if (Modifier.isPublic(m.getModifiers())) {
                Check.holds(m.getName() + " is not static", !Modifier.isStatic(m.getModifiers()));
                got.add(m.getReturnType() + " " + m.getName() + "(" + list(m.getParameterTypes()) + ") "
                        + list(m.getExceptionTypes()));
            }
        }
        Check.due("how many methods the document has", want.size(), 28);
        Check.holds("the face is the document's: " + got + " and not " + want, got.equals(want));
        Check.holds("final", Modifier.isFinal(Stratalog.class.getModifiers()));
        Constructor<?>[] constructors = Stratalog.class.getDeclaredConstructors();
        Check.due("constructors", constructors.length, 1);
        Check.holds("public, without arguments", Modifier.isPublic(constructors[0].getModifiers())
                && constructors[0].getParameterCount() == 0);
    }

    private static void nothingElseIsSeen() {
        List<String> constants = Arrays.asList("NONE", "NO_VALUE", "DONE", "CONFLICT");
        for (Field field : Stratalog.class.getDeclaredFields()) {
            int modifiers = field.getModifiers();
            if (constants.contains(field.getName())) {
                Check.holds(field + " is public", Modifier.isPublic(modifiers));
            } else {
                Check.holds(field + " is private", Modifier.isPrivate(modifiers));
            }
        }
        for (Method method : Stratalog.class.getDeclaredMethods()) {
            int modifiers = method.getModifiers();
            boolean isEither = Modifier.isPublic(modifiers) || Modifier.isPrivate(modifiers);
            Check.holds(method + " is public or private", isEither);
        }
        Class<?>[] inside = Stratalog.class.getDeclaredClasses();
        for (Class<?> each : inside) {
            Check.holds(each + " is static", Modifier.isStatic(each.getModifiers()));
            Check.holds(each + " is not public", !Modifier.isPublic(each.getModifiers()));
        }
    }

    private static void namesAreNotReused() {
        TreeSet<String> face = new TreeSet<>();
        List<Method> others = new ArrayList<>();
        List<Class<?>> all = new ArrayList<>(Arrays.asList(Stratalog.class.getDeclaredClasses()));
        all.add(Stratalog.class);
        for (Class<?> each : all) {
            for (Method method : each.getDeclaredMethods()) {
                if (each == Stratalog.class && Modifier.isPublic(method.getModifiers())) {
                    face.add(method.getName());
                } else if (Modifier.isPrivate(method.getModifiers())) {
                    others.add(method);
                }
            }
        }
        for (Method method : others) {
            Check.holds(method + " has a name of its own", !face.contains(method.getName()));
        }
    }
}
