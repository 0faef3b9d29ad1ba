import java.io.IOException;
import java.lang.reflect.Field;
import java.lang.reflect.Method;
import java.lang.reflect.Modifier;
import java.nio.file.Files;
import java.nio.file.Path;
import java.util.ArrayList;
import java.util.Arrays;
import java.util.List;
import java.util.regex.Matcher;
import java.util.regex.Pattern;

/** What of the rules of LANGUAGE.md can be seen from the program's text, its classes, or what they call. */
public final class RulesTests {
    private static final Path PROGRAM = Path.of("src/main/java/Stratalog.java");
    private static final String EXCEPTION = "(IllegalState|IllegalArgument|IndexOutOfBounds|Arithmetic"
            + "|UnsupportedOperation|NoSuchElement|Runtime)Exception";
    private static final List<String> FORBIDDEN = Arrays.asList("\\bpackage\\b", "\\bfinally\\b", "\\btry *\\(",
            "\\bsynchronized\\b", "\\bassert\\b", "\\bstatic *\\{", "\\bhashCode\\b", "\\bequals *\\(Object\\b",
            "\\bvolatile\\b", "\\bnative\\b", "\\bvar\\b", "\\byield\\b", "\\[ *\\] *\\[ *\\] *\\[");
    private static final Pattern MAY_BE_NAMED = Pattern.compile("Stratalog(\\.\\w+)?|java\\.lang\\.(String"
            + "|StringBuilder|Integer|Long|Math|System|Iterable|Comparable|" + EXCEPTION + ")"
            + "|java\\.util\\.(ArrayList|List|Arrays|Iterator|NoSuchElementException)");
    /** Of the library that rule 4 lists, what a program like this one may need. */
    private static final Pattern MAY_BE_CALLED = Pattern.compile("java\\.lang\\.(Object\\.Object\\(\\)"
            + "|" + EXCEPTION + "\\.\\w+\\((java\\.lang\\.String)?\\)"
            + "|(Integer|Long|Math)\\.(compare|max|min|abs|signum|bitCount|floorDiv|floorMod)\\(.*\\)"
            + "|System\\.arraycopy\\(.*\\))"
            + "|java\\.util\\.(ArrayList\\.ArrayList\\(\\)|(ArrayList|List)\\.(add|get|set|size|isEmpty|clear)\\(.*\\)"
            + "|(ArrayList|List)\\.remove\\(int\\)|Arrays\\.(copyOf|copyOfRange|fill)"
            + "\\((int|long|char|byte|boolean).*\\))");
    private static final Pattern THROW = Pattern.compile("throw new " + EXCEPTION + "\\((\"\")?\\);");
    private static final int LONGEST_METHOD = 60, DEEPEST_CALLS = 8, MOST_CLASSES = 12, MOST_FIELDS = 20;

    private final List<String> lines;
    private final Program program;
    private final List<Class<?>> classes = new ArrayList<>(Arrays.asList(Stratalog.class.getDeclaredClasses()));

    private RulesTests() throws IOException {
        lines = Files.readAllLines(PROGRAM);
        program = new Program(PROGRAM);
        classes.add(Stratalog.class);
    }

    public static void main(String[] args) throws IOException {
        RulesTests tests = new RulesTests();
        tests.textKeepsToTheRules();
        tests.libraryIsTheListedOne();
        tests.staticFieldsAreConstants();
        tests.methodsAreSmall();
        tests.callsAreShallow();
        System.out.println("RulesTests");
        Check.end();
    }

    private void textKeepsToTheRules() {
        for (int i = 0; i < lines.size(); i++) {
            String place = "line " + (i + 1);
            String bare = lines.get(i).replaceAll("\"[^\"]*\"", "\"\"");
            String code = bare.replaceAll("//.*|^ */?\\*.*", "").strip();
            for (String word : FORBIDDEN) {
                Check.holds(place + " is without " + word, !Pattern.compile(word).matcher(code).find());
            }
            Matcher thrown = THROW.matcher(code);
            Check.holds(place + " throws by rule 6", !code.matches(".*\\bthrow\\b.*") || thrown.matches());
            Check.holds(place + " has signs 1 to 127", lines.get(i).chars().allMatch(c -> c >= 1 && c <= 127));
        }
        Check.holds("not to be there: " + program.ruledOut, program.ruledOut.isEmpty());
    }

    private void libraryIsTheListedOne() {
        for (String type : program.types) {
            Check.holds(type + " may be named", MAY_BE_NAMED.matcher(type).matches());
        }
        for (String called : program.outside()) {
            Check.holds(called + " may be called", MAY_BE_CALLED.matcher(called).matches());
        }
        Check.holds("rule 4 lists no field of the library: " + program.fields, program.fields.isEmpty());
    }

    private void staticFieldsAreConstants() {
        List<Class<?>> types = Arrays.asList(int.class, long.class, boolean.class, char.class, String.class,
                int[].class, long[].class, char[].class, byte[].class);
        for (Class<?> each : classes) {
            int fields = 0;
            for (Field field : each.getDeclaredFields()) {
                if (Modifier.isStatic(field.getModifiers())) {
                    Check.holds(field + " is a constant", Modifier.isFinal(field.getModifiers())
                            && types.contains(field.getType()));
                } else {
                    fields++;
                }
            }
            Check.holds(each + " has at most twenty fields", fields <= MOST_FIELDS);
        }
        Check.holds("at most twelve classes", classes.size() <= MOST_CLASSES);
    }

    private void methodsAreSmall() {
        int methods = 0;
        for (Class<?> each : classes) {
            methods += each.getDeclaredMethods().length + each.getDeclaredConstructors().length;
            for (Method method : each.getDeclaredMethods()) {
                Check.holds(method + " takes at most seven", method.getParameterCount() <= 7);
            }
        }
        Check.due("methods and constructors that were measured", program.lengths.size(), methods);
        program.lengths.forEach((method, length) ->
                Check.holds(method + " has " + length + " lines, at most sixty", length <= LONGEST_METHOD));
    }

    private void callsAreShallow() {
        for (String method : program.calls.keySet()) {
            int depth = program.depthOf(method);
            Check.holds(method + " opens " + depth + " calls, at most eight", depth <= DEEPEST_CALLS);
        }
    }
}
