import java.io.IOException;
import java.lang.reflect.Method;
import java.lang.reflect.Modifier;
import java.nio.file.Files;
import java.nio.file.Path;
import java.util.ArrayList;
import java.util.List;
import java.util.TreeSet;
import java.util.regex.Matcher;
import java.util.regex.Pattern;
import java.util.spi.ToolProvider;

/** The examples of README.md answer what their comments tell, and leave out no call of the face. */
public final class ReadmeTests {
    private static final Path PAGE = Path.of("README.md");
    private static final String MADE = "Stratalog x = new Stratalog();";
    private static final Pattern LINE = Pattern.compile("^(.*);(?: *// (throws )?(-?\\w+))?$");
    private static final Pattern CALL = Pattern.compile("\\bx\\.(\\w+)\\(");
    private static final List<String> CONSTANTS = List.of("NONE", "NO_VALUE", "DONE", "CONFLICT");

    private ReadmeTests() {
    }

    public static void main(String[] args) throws IOException, ReflectiveOperationException {
        List<List<String>> examples = examples();
        Check.holds("the first example makes an object", examples.get(0).equals(List.of(MADE)));
        allCallsAreShown(examples);
        callsAnswerWhatIsTold(examples);
        System.out.println("ReadmeTests");
        Check.end();
    }

    /** The lines of each example in Java. */
    private static List<List<String>> examples() throws IOException {
        List<List<String>> examples = new ArrayList<>();
        boolean isInside = false;
        for (String line : Files.readAllLines(PAGE)) {
            if (line.equals("```java")) {
                examples.add(new ArrayList<>());
                isInside = true;
            } else if (line.startsWith("```")) {
                isInside = false;
            } else if (isInside) {
                examples.get(examples.size() - 1).add(line);
            }
        }
        return examples;
    }

    private static void allCallsAreShown(List<List<String>> examples) {
        TreeSet<String> shown = new TreeSet<>();
        for (List<String> example : examples) {
            for (String line : example) {
                Matcher matcher = CALL.matcher(line);
                while (matcher.find()) {
                    shown.add(matcher.group(1));
                }
            }
        }
        for (Method method : Stratalog.class.getDeclaredMethods()) {
            if (Modifier.isPublic(method.getModifiers())) {
                Check.holds(method.getName() + " is shown", shown.contains(method.getName()));
            }
        }
    }

    private static void callsAnswerWhatIsTold(List<List<String>> examples)
            throws IOException, ReflectiveOperationException {
        StringBuilder text = new StringBuilder("public final class ReadmeExamples {\n");
        text.append("public static void all() {\n");
        for (List<String> example : examples.subList(1, examples.size())) {
            text.append("{ ").append(MADE).append("\n");
            example.forEach(line -> text.append(checked(line)).append("\n"));
            text.append("}\n");
        }
        text.append("}\n}\n");
        // Into the folder of the tests' own classes, since Check is seen only from there.
        String folder = System.getProperty("java.class.path");
        Path file = Path.of(folder, "ReadmeExamples.java");
        Files.writeString(file, text);
        int compiled = ToolProvider.findFirst("javac").orElseThrow().run(System.out, System.out,
                "-d", folder, "-cp", folder, file.toString());
        Check.due("compiling the examples", compiled, 0);
        Class.forName("ReadmeExamples").getMethod("all").invoke(null);
    }

    /** A line of an example, made into one that compares the answer with what the comment tells. */
    private static String checked(String line) {
        Matcher matcher = LINE.matcher(line);
        if (!matcher.matches()) {
            Check.holds("a line of the form of the others: " + line, false);
            return "";
        }
        String call = matcher.group(1);
        String told = matcher.group(3);
        if (told == null) {
            return line;
        }
        if (matcher.group(2) != null) {
            return "Check.dueText(\"" + call + "\", Check.thrownBy(() -> " + call + "), \"" + told + "\");";
        }
        String due = CONSTANTS.contains(told) ? "Stratalog." + told : told;
        return "Check.due(\"" + call + "\", " + call + ", " + due + ");";
    }
}
