import java.io.IOException;
import java.lang.reflect.Method;
import java.lang.reflect.Modifier;
import java.nio.file.DirectoryStream;
import java.nio.file.Files;
import java.nio.file.Path;
import java.util.ArrayList;
import java.util.HashMap;
import java.util.List;
import java.util.Map;
import java.util.Set;
import java.util.TreeSet;
import java.util.regex.Matcher;
import java.util.regex.Pattern;

/** README.md: what it says of the class and of the tests holds. It is read from the top of the checkout. */
public final class ReadmeTest {
    private static final Pattern EXAMPLE = Pattern.compile(
        "(\\w+) (\\w+) = x\\.(\\w+)\\(([\\w, ]*)\\); +// (-?\\w+)(: .*)?");
    private static final Pattern ROW = Pattern.compile("\\| `(\\w+) (\\w+)\\(([\\w, ]*)\\)` \\| .+ \\|.* \\|");

    private final Due due = new Due();
    private final List<String> lines;

    private ReadmeTest(List<String> lines) {
        this.lines = lines;
    }

    public static void main(String[] args) throws IOException, ReflectiveOperationException {
        ReadmeTest test = new ReadmeTest(Files.readAllLines(Path.of("README.md")));
        test.examplesAnswerWhatStandsBehindThem();
        test.everyCallHasItsRow();
        test.everyTestIsTold();
        test.due.end();
    }

    private void examplesAnswerWhatStandsBehindThem() throws ReflectiveOperationException {
        NumberStreams x = new NumberStreams();
        Map<String, Object> answers = new HashMap<>();
        Set<String> used = new TreeSet<>();
        for (String line : exampleLines()) {
            Matcher parts = EXAMPLE.matcher(line);
            if (!parts.matches()) {
                due.is("'" + line + "' has the form of an example", false, true);
                continue;
            }
            Method method = methodNamed(parts.group(3));
            due.is(line + ": its type", method.getReturnType().getName().equals(parts.group(1)), true);
            Object answer = method.invoke(x, argumentsOf(parts.group(4), answers));
            due.is(line + ": " + answer, answer.toString().equals(parts.group(5)), true);
            answers.put(parts.group(2), answer);
            used.add(method.getName());
        }
        due.is("calls with an example: " + used, used.size(), publicMethods().size());
    }

    /** The first Java block without its empty lines and without the line that makes the object. */
    private List<String> exampleLines() {
        List<String> block = new ArrayList<>();
        int from = lines.indexOf("```java") + 1;
        due.is("the object is made first", lines.get(from).equals("NumberStreams x = new NumberStreams();"), true);
        for (int i = from + 1; !lines.get(i).equals("```"); i++) {
            if (!lines.get(i).isEmpty()) {
                block.add(lines.get(i));
            }
        }
        return block;
    }

    private static Object[] argumentsOf(String text, Map<String, Object> answers) {
        List<Object> values = new ArrayList<>();
        for (String argument : text.split(", ")) {
            if (!argument.isEmpty()) {
                values.add(answers.containsKey(argument) ? answers.get(argument) : Integer.valueOf(argument));
            }
        }
        return values.toArray();
    }

    private void everyCallHasItsRow() {
        Set<String> told = new TreeSet<>();
        for (String line : lines) {
            Matcher row = ROW.matcher(line);
            if (row.matches()) {
                told.add(row.group(1) + " " + row.group(2) + "(" + row.group(3).replaceAll("(\\w+) \\w+", "$1") + ")");
            }
        }
        Set<String> made = new TreeSet<>();
        for (Method method : publicMethods()) {
            List<String> types = new ArrayList<>();
            for (Class<?> parameter : method.getParameterTypes()) {
                types.add(parameter.getName());
            }
            made.add(method.getReturnType() + " " + method.getName() + "(" + String.join(", ", types) + ")");
        }
        due.is("rows " + told + " for the calls " + made, told.equals(made), true);
    }

    private void everyTestIsTold() throws IOException {
        String text = String.join("\n", lines);
        try (DirectoryStream<Path> files = Files.newDirectoryStream(Path.of("src/test/java"), "*.java")) {
            for (Path file : files) {
                String name = file.getFileName().toString().replace(".java", "");
                due.is("`" + name + "` is told", text.contains("`" + name + "`"), true);
            }
        }
    }

    private static List<Method> publicMethods() {
        List<Method> methods = new ArrayList<>();
        for (Method method : NumberStreams.class.getDeclaredMethods()) {
            if (Modifier.isPublic(method.getModifiers())) {
                methods.add(method);
            }
        }
        return methods;
    }

    private static Method methodNamed(String name) throws NoSuchMethodException {
        for (Method method : publicMethods()) {
            if (method.getName().equals(name)) {
                return method;
            }
        }
        throw new NoSuchMethodException(name);
    }
}
