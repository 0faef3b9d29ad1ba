import java.lang.reflect.Constructor;
import java.lang.reflect.Field;
import java.lang.reflect.Method;
import java.lang.reflect.Modifier;
import java.io.IOException;
import java.nio.file.Files;
import java.nio.file.Path;
import java.util.ArrayList;
import java.util.Arrays;
import java.util.List;
import java.util.TreeSet;
import java.util.regex.Matcher;
import java.util.regex.Pattern;

/** The face is the document's and nothing more; and what of LANGUAGE.md can be seen from the text. */
public final class FaceTests {
    private static final Path PROGRAM = Path.of("src/main/java/Stratalog.java");
    private static final Path DOCUMENT = Path.of("../shared/DOC.md");

    private FaceTests() {
    }

    public static void main(String[] args) throws IOException {
        faceIsTheDocuments();
        nothingElseIsSeen();
        namesAreNotReused();
        textKeepsToTheRules();
        System.out.println("FaceTests");
        Check.end();
    }

    private static String list(Class<?>[] types) {
        List<String> names = new ArrayList<>();
        for (Class<?> type : types) {
            names.add(type.getSimpleName());
        }
        return String.join(", ", names);
    }

    private static void faceIsTheDocuments() throws IOException {
        TreeSet<String> want = new TreeSet<>();
        Pattern method = Pattern.compile("^    public (int|void) (\\w+)\\((.*)\\)(?: throws (.*))?;$");
        for (String line : Files.readAllLines(DOCUMENT)) {
            Matcher matcher = method.matcher(line);
            if (matcher.matches()) {
                String types = matcher.group(3).replaceAll(" \\w+(,|$)", "$1");
                String thrown = matcher.group(4) == null ? "" : matcher.group(4);
                want.add(matcher.group(1) + " " + matcher.group(2) + "(" + types + ") " + thrown);
            }
        }
        TreeSet<String> got = new TreeSet<>();
        for (Method m : Stratalog.class.getDeclaredMethods()) {
            if (Modifier.isPublic(m.getModifiers())) {
                Check.holds(m.getName() + " is not static", !Modifier.isStatic(m.getModifiers()));
                got.add(m.getReturnType() + " " + m.getName() + "(" + list(m.getParameterTypes()) + ") "
                        + list(m.getExceptionTypes()));
            }
        }
        Check.due("how many methods the document has", want.size(), 28);
        Check.holds("the face is the document's: " + got + " and not " + want, got.equals(want));
        Check.holds("final", Modifier.isFinal(Stratalog.class.getModifiers()));
        Constructor<?>[] constructors = Stratalog.class.getDeclaredConstructors();
        Check.due("constructors", constructors.length, 1);
        Check.holds("public, without arguments", Modifier.isPublic(constructors[0].getModifiers())
                && constructors[0].getParameterCount() == 0);
    }

    private static void nothingElseIsSeen() {
        List<String> constants = Arrays.asList("NONE", "NO_VALUE", "DONE", "CONFLICT");
        for (Field field : Stratalog.class.getDeclaredFields()) {
            int modifiers = field.getModifiers();
            if (constants.contains(field.getName())) {
                Check.holds(field + " is public", Modifier.isPublic(modifiers));
            } else {
                Check.holds(field + " is private", Modifier.isPrivate(modifiers));
            }
            Check.holds(field + " is no state of all", !Modifier.isStatic(modifiers) || Modifier.isFinal(modifiers));
        }
        for (Method method : Stratalog.class.getDeclaredMethods()) {
            int modifiers = method.getModifiers();
            boolean isEither = Modifier.isPublic(modifiers) || Modifier.isPrivate(modifiers);
            Check.holds(method + " is public or private", isEither);
        }
        Class<?>[] inside = Stratalog.class.getDeclaredClasses();
        Check.holds("at most twelve classes", inside.length + 1 <= 12);
        for (Class<?> each : inside) {
            Check.holds(each + " is static", Modifier.isStatic(each.getModifiers()));
            Check.holds(each + " is not public", !Modifier.isPublic(each.getModifiers()));
            for (Field field : each.getDeclaredFields()) {
                int modifiers = field.getModifiers();
                boolean isState = Modifier.isStatic(modifiers) && !Modifier.isFinal(modifiers);
                Check.holds(field + " is no state of all", !isState);
            }
        }
    }

    private static void namesAreNotReused() {
        TreeSet<String> face = new TreeSet<>();
        List<Method> others = new ArrayList<>();
        List<Class<?>> all = new ArrayList<>(Arrays.asList(Stratalog.class.getDeclaredClasses()));
        all.add(Stratalog.class);
        for (Class<?> each : all) {
            for (Method method : each.getDeclaredMethods()) {
                if (each == Stratalog.class && Modifier.isPublic(method.getModifiers())) {
                    face.add(method.getName());
                } else if (Modifier.isPrivate(method.getModifiers())) {
                    others.add(method);
                }
                Check.holds(method + " takes at most seven", method.getParameterCount() <= 7);
            }
        }
        for (Method method : others) {
            Check.holds(method + " has a name of its own", !face.contains(method.getName()));
        }
    }

    private static void textKeepsToTheRules() throws IOException {
        List<String> forbidden = Arrays.asList("\\bpackage\\b", "::", "\\bfinally\\b", "\\btry *\\(",
                "\\bsynchronized\\b", "\\bassert\\b", "Exact\\(", "\\bstatic *\\{", "\\bSystem\\.(?!arraycopy)",
                "\\bMath\\.random\\b", "\\bhashCode\\b", "\\bvolatile\\b", "\\bnative\\b", "\\bThread\\b",
                "catch *\\((final )?(Throwable|Error|Exception|NullPointer|Array|Arithmetic|ClassCast|NegativeArray)");
        Pattern lambda = Pattern.compile("(?<!\\bdefault) ->");
        Pattern imports = Pattern.compile(
                "import java\\.util\\.(ArrayList|List|Arrays|Iterator|NoSuchElementException|\\*);");
        List<String> lines = Files.readAllLines(PROGRAM);
        for (int i = 0; i < lines.size(); i++) {
            String place = "line " + (i + 1);
            String line = lines.get(i).replaceAll("//.*|^ */?\\*.*|\"[^\"]*\"", "").stripTrailing();
            for (String word : forbidden) {
                Check.holds(place + " is without " + word, !Pattern.compile(word).matcher(line).find());
            }
            Check.holds(place + " has no lambda", line.contains("case ") || !lambda.matcher(line).find());
            Check.holds(place + " imports what may be", !line.startsWith("import") || imports.matcher(line).matches());
            Check.holds(place + " has signs 1 to 127", lines.get(i).chars().allMatch(c -> c >= 1 && c <= 127));
        }
    }
}
