import java.io.IOException;
import java.lang.reflect.Method;
import java.lang.reflect.Modifier;
import java.nio.file.Files;
import java.nio.file.Path;
import java.util.List;
import java.util.regex.Matcher;
import java.util.regex.Pattern;
import java.util.stream.Stream;

/** README.md tells the truth: its example answers as its comments say, and it leaves out no call and no test. */
public final class ReadmeTest {
    private static final Pattern EXAMPLE = Pattern.compile("```java\n(.*?)```", Pattern.DOTALL);
    private static final Pattern ROW = Pattern.compile("x\\.(\\w+)\\((.*?)\\); +// (-?\\w+): .*");

    private ReadmeTest() {
    }

    public static void main(String[] args) throws IOException, ReflectiveOperationException {
        String text = Files.readString(Path.of("README.md"));
        example(text);
        calls(text);
        tests(text);
        Checks.finish("ReadmeTest");
    }

    private static void example(String text) throws ReflectiveOperationException {
        Matcher example = EXAMPLE.matcher(text);
        Checks.due("README.md has an example", example.find() ? 1 : 0, 1);
        List<String> rows = example.group(1).lines().toList();
        Checks.dueText("first row", rows.get(0), "WholeSpans x = new WholeSpans();");
        WholeSpans x = new WholeSpans();
        for (String row : rows.subList(1, rows.size())) {
            Matcher parts = ROW.matcher(row);
            if (Checks.due("row can be read: " + row, parts.matches() ? 1 : 0, 1)) {
                Checks.dueText(row, answer(x, parts.group(1), parts.group(2)), parts.group(3));
            }
        }
    }

    private static String answer(WholeSpans x, String name, String arguments) throws ReflectiveOperationException {
        String[] texts = arguments.isEmpty() ? new String[0] : arguments.split(", ");
        Class<?>[] types = new Class<?>[texts.length];
        Object[] values = new Object[texts.length];
        for (int i = 0; i < texts.length; i++) {
            boolean truth = texts[i].equals("true") || texts[i].equals("false");
            types[i] = truth ? boolean.class : int.class;
            values[i] = truth ? (Object) Boolean.valueOf(texts[i]) : (Object) Integer.valueOf(texts[i]);
        }
        return String.valueOf(WholeSpans.class.getMethod(name, types).invoke(x, values));
    }

    private static void calls(String text) {
        for (Method method : WholeSpans.class.getDeclaredMethods()) {
            if (Modifier.isPublic(method.getModifiers())) {
                Checks.due("README.md tells of " + method, text.contains("`" + method.getName() + "(") ? 1 : 0, 1);
            }
        }
    }

    private static void tests(String text) throws IOException {
        try (Stream<Path> files = Files.list(Path.of("src/test/java"))) {
            for (Path file : files.filter(one -> one.toString().endsWith("Test.java")).toList()) {
                String name = file.getFileName().toString().replace(".java", "");
                Checks.due("README.md tells of " + name, text.contains("`" + name + "`") ? 1 : 0, 1);
            }
        }
    }
}
