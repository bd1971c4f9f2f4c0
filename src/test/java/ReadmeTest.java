import java.io.IOException;
import java.lang.reflect.Method;
import java.lang.reflect.Modifier;
import java.nio.file.Files;
import java.nio.file.Path;
import java.util.ArrayList;
import java.util.HashMap;
import java.util.List;
import java.util.Map;
import java.util.TreeMap;
import java.util.TreeSet;
import java.util.regex.Matcher;
import java.util.regex.Pattern;
import java.util.stream.Stream;

/**
 * README.md itself is run: each line of its Java is a call with the answer that is told behind it,
 * so that no call can be shown there that is not looked at here.
 */
public final class ReadmeTest {
    private static final String NEW_OBJECT = "TableOrders x = new TableOrders();";
    /** As "int f = x.factor(3);  // 0, and more words": type, variable, method, arguments, answer. */
    private static final Pattern CALL =
            Pattern.compile("(?:(int|long) (\\w+) = )?x\\.(\\w+)\\(([^()]*)\\); +// (-?\\d+)(?:\\D.*)?");
    /** A row of the table of tests. */
    private static final Pattern TEST = Pattern.compile("\\| `(\\w+Test)` \\|.*");
    /** The operators that the shown arguments may have, those that bind least first. */
    private static final String[] OPERATORS = {"|", "<<", "+", "*"};

    private final Check check = new Check();
    private final Map<String, Class<?>> face = new TreeMap<>();
    private final Map<String, Long> variables = new HashMap<>();
    private final TreeSet<String> shown = new TreeSet<>();
    private Calls calls;

    public static void main(String[] args) throws IOException {
        Path root = Path.of(System.getProperty("tableorders.root", "."));
        List<String> lines = Files.readAllLines(root.resolve("README.md"));
        ReadmeTest test = new ReadmeTest();
        test.callsAnswerAsTold(lines);
        test.allCallsAreShown();
        test.allTestsAreTold(lines, root.resolve("src/test/java"));
        test.waysToRunAreTold(lines);
        test.check.end();
    }

    private ReadmeTest() {
        for (Method each : TableOrders.class.getDeclaredMethods()) {
            if (Modifier.isPublic(each.getModifiers())) {
                face.put(each.getName(), each.getReturnType());
            }
        }
    }

    private void callsAnswerAsTold(List<String> lines) {
        boolean inJava = false;
        for (String line : lines) {
            if (line.startsWith("```")) {
                inJava = line.equals("```java");
            } else if (inJava) {
                lineAnswersAsTold(line);
            }
        }
    }

    private void lineAnswersAsTold(String line) {
        if (line.equals(NEW_OBJECT)) {
            calls = new Calls(new TableOrders());
            variables.clear();
            return;
        }
        Matcher call = CALL.matcher(line);
        boolean readable = call.matches() && calls != null && face.containsKey(call.group(3));
        check.holds("README.md: a call with its answer: " + line, readable);
        if (readable) {
            String method = call.group(3);
            long answer = calls.make(method + valuesOf(call.group(4)));
            check.due("README.md: " + line, answer, Long.parseLong(call.group(5)));
            shown.add(method);
            keep(call.group(1), call.group(2), method, answer);
        }
    }

    private void keep(String type, String variable, String method, long answer) {
        if (variable != null) {
            check.holds("README.md: " + type + " for " + method, type.equals(face.get(method).getName()));
            check.holds("README.md: " + variable + " stands once", variables.put(variable, answer) == null);
        }
    }

    private String valuesOf(String arguments) {
        StringBuilder values = new StringBuilder();
        if (!arguments.isEmpty()) {
            for (String argument : arguments.split(",")) {
                values.append(' ').append(valueOf(argument, 0));
            }
        }
        return values.toString();
    }

    private long valueOf(String text, int level) {
        if (level == OPERATORS.length) {
            return atom(text.strip());
        }
        List<String> parts = new ArrayList<>(List.of(text.split(Pattern.quote(OPERATORS[level]))));
        long value = valueOf(parts.remove(0), level + 1);
        for (String part : parts) {
            value = joined(OPERATORS[level], value, valueOf(part, level + 1));
        }
        return value;
    }

    private static long joined(String operator, long a, long b) {
        switch (operator) {
            case "|":
                return a | b;
            case "<<":
                return a << b;
            case "+":
                return a + b;
            default:
                return a * b;
        }
    }

    private long atom(String word) {
        if (word.equals("TableOrders.NONE")) {
            return TableOrders.NONE;
        }
        Long kept = variables.get(word);
        return kept == null ? Long.parseLong(word) : kept;
    }

    private void allCallsAreShown() {
        check.holds("README.md shows " + shown + " of " + face.keySet(), shown.equals(face.keySet()));
    }

    private void allTestsAreTold(List<String> lines, Path folder) throws IOException {
        TreeSet<String> told = new TreeSet<>();
        for (String line : lines) {
            Matcher row = TEST.matcher(line);
            if (row.matches()) {
                told.add(row.group(1));
            }
        }
        TreeSet<String> there = new TreeSet<>();
        try (Stream<Path> files = Files.list(folder)) {
            for (Path file : (Iterable<Path>) files::iterator) {
                String name = file.getFileName().toString();
                if (name.endsWith("Test.java")) {
                    there.add(name.substring(0, name.length() - ".java".length()));
                }
            }
        }
        check.holds("README.md tells of the tests " + told + ", there are " + there, told.equals(there));
    }

    private void waysToRunAreTold(List<String> lines) {
        check.holds("README.md says how all tests are run", lines.contains("bash .ci/run"));
    }
}
