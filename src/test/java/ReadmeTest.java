import java.io.IOException;
import java.lang.reflect.Modifier;
import java.nio.file.Files;
import java.nio.file.Path;
import java.util.List;
import java.util.regex.Matcher;
import java.util.regex.Pattern;
import java.util.stream.Stream;

/** README.md: each answer of its example is the one that is given, and it names every call and every test. */
public final class ReadmeTest {
    private static final Due due = new Due("ReadmeTest");
    private static final Pattern TYPED = Pattern.compile("for .*\"([a-z ]+)\".*x\\.feed\\(letter\\);");
    private static final Pattern CALL = Pattern.compile("x\\.(\\w+)\\(([^)]*)\\); *// (-?\\d+|[A-Z]+)\\b.*");

    public static void main(String[] args) throws IOException {
        String page = Files.readString(Path.of("README.md"));
        example(page);
        namesEveryCall(page);
        namesEveryTest(page);
        due.close();
    }

    private static void example(String page) {
        int from = page.indexOf("```java");
        int to = page.indexOf("```", from + 7);
        due.is("there is an example", from >= 0 && to > from ? 1 : 0, 1);
        List<String> lines = page.substring(from + 7, to).lines().filter(line -> line.startsWith("x.") || line.startsWith("for")).toList();
        Run run = new Run();
        for (String line : lines) {
            Matcher typed = TYPED.matcher(line);
            Matcher call = CALL.matcher(line);
            if (typed.matches()) {
                run.call("'" + typed.group(1));
            } else if (call.matches()) {
                due.is(line, run.call(told(call.group(1), call.group(2))), answer(call.group(3)));
            } else {
                due.isText("a line of the example", line, "a call with its answer");
            }
        }
        due.is("the example is long enough", lines.size() > 20 ? 1 : 0, 1);
    }

    private static String told(String name, String numbers) {
        String plain = numbers.replace("true", "1").replace("false", "0").replace(",", "");
        return plain.isEmpty() ? name : name + " " + plain;
    }

    private static int answer(String told) {
        switch (told) {
            case "NONE": return EvenBreaks.NONE;
            case "UNKNOWN": return EvenBreaks.UNKNOWN;
            case "OUTSIDE": return EvenBreaks.OUTSIDE;
            case "NOT": return EvenBreaks.NOT;
            case "FULL": return EvenBreaks.FULL;
            default: return Integer.parseInt(told);
        }
    }

    private static void namesEveryCall(String page) {
        int calls = 0;
        for (var method : EvenBreaks.class.getDeclaredMethods()) {
            if (Modifier.isPublic(method.getModifiers())) {
                calls++;
                due.is("the table has " + method.getName(), page.contains("| `" + method.getName() + "(") ? 1 : 0, 1);
            }
        }
        due.is("calls", calls, 27);
    }

    private static void namesEveryTest(String page) throws IOException {
        try (Stream<Path> files = Files.list(Path.of("src/test/java"))) {
            for (Path file : files.toList()) {
                String name = file.getFileName().toString().replace(".java", "");
                String wanted = name.endsWith("Test") ? "| " + name + " |" : name;
                due.is("the page names " + name, page.contains(wanted) ? 1 : 0, 1);
            }
        }
    }
}
