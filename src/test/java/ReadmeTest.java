import java.io.IOException;
import java.lang.reflect.Method;
import java.lang.reflect.Modifier;
import java.nio.file.Files;
import java.nio.file.Path;
import java.util.List;
import java.util.Map;
import java.util.regex.Matcher;
import java.util.regex.Pattern;
import java.util.stream.Stream;

/** What README.md says: the answers of its example, the calls of its table, and which tests there are. */
public final class ReadmeTest {
    private static final Pattern CALL = Pattern.compile("beacon\\.(\\w+)\\(([-0-9, ]*)\\);\\s+// (-?\\w+): .*");
    private static final Pattern TYPING = Pattern.compile(
            "for \\(char c : \"(.*)\"\\.toCharArray\\(\\)\\) beacon\\.type\\(c\\);");
    private static final Map<String, Integer> CONSTANTS = Map.of("UNKNOWN", Due.UNKNOWN, "BAD_VALUE",
            Due.BAD_VALUE, "FULL", Due.FULL, "NOT_POSSIBLE", Due.NOT_POSSIBLE, "NONE", Due.NONE);

    private static Method methodOf(String name) {
        for (Method method : LampChanger.class.getDeclaredMethods()) {
            if (method.getName().equals(name)) {
                return method;
            }
        }
        throw new IllegalStateException("README calls " + name + ", which there is not");
    }

    private static int answerOf(LampChanger beacon, String name, String arguments) throws ReflectiveOperationException {
        String[] written = arguments.isEmpty() ? new String[0] : arguments.split(", ");
        Object[] numbers = Stream.of(written).map(Integer::valueOf).toArray();
        return (Integer) methodOf(name).invoke(beacon, numbers);
    }

    private static void theExample(List<String> readme) throws ReflectiveOperationException {
        int begin = readme.indexOf("```java");
        Due.holds("README has an example", begin >= 0);
        LampChanger beacon = new LampChanger();
        int calls = 0;
        for (String line : readme.subList(begin + 2, readme.size())) {
            if (line.equals("```")) {
                break;
            }
            Matcher call = CALL.matcher(line);
            Matcher typing = TYPING.matcher(line);
            if (call.matches()) {
                String answer = call.group(3);
                int due = CONSTANTS.containsKey(answer) ? CONSTANTS.get(answer) : Integer.parseInt(answer);
                Due.due("README: " + line, answerOf(beacon, call.group(1), call.group(2)), due);
                calls++;
            } else {
                Due.holds("README: " + line + " can be read", typing.matches());
                Due.type(beacon, typing.group(1));
            }
        }
        Due.holds("the example has calls", calls >= 10);
    }

    private static void theTableOfCalls(String readme) {
        for (Method method : LampChanger.class.getDeclaredMethods()) {
            if (Modifier.isPublic(method.getModifiers())) {
                Matcher row = Pattern.compile("(?m)^\\| `" + method.getName() + "\\((.*?)\\)`").matcher(readme);
                Due.holds("README has a row for " + method.getName(), row.find());
                String named = row.group(1);
                int parameters = named.isEmpty() ? 0 : named.split(", ").length;
                Due.due("README, parameters of " + method.getName(), parameters, method.getParameterCount());
            }
        }
    }

    private static void theTests(String readme) throws IOException {
        try (Stream<Path> tests = Files.list(Path.of("src/test/java"))) {
            for (Path test : tests.filter(Files::isRegularFile).toList()) {
                String name = test.getFileName().toString().replace(".java", "");
                Due.holds("README names " + name, readme.contains("`" + name + "`"));
            }
        }
    }

    public static void main(String[] args) throws IOException, ReflectiveOperationException {
        Path readme = Path.of("README.md");
        theExample(Files.readAllLines(readme));
        theTableOfCalls(Files.readString(readme));
        theTests(Files.readString(readme));
        Due.end();
    }
}
