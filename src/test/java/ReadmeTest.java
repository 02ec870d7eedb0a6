import java.io.IOException;
import java.lang.reflect.Method;
import java.lang.reflect.Modifier;
import java.nio.file.Files;
import java.nio.file.Path;
import java.util.List;
import java.util.regex.Matcher;
import java.util.regex.Pattern;
import java.util.stream.Stream;

/** README.md: its example answers as it says, and each call and each test stands in its tables. */
public final class ReadmeTest {
    private static final Pattern TEXT = Pattern.compile("String text = \"([^\"]*)\";");
    private static final Pattern CALL = Pattern.compile("^x\\.(\\w+)\\(([^)]*)\\);\\s*// (-?\\d+):", Pattern.MULTILINE);

    public static void main(String[] args) throws Exception {
        String readme = Files.readString(Path.of("README.md"));
        example(readme);
        calls(readme);
        tests(readme);
        Due.end();
    }

    private static void example(String readme) throws ReflectiveOperationException {
        Matcher text = TEXT.matcher(readme);
        Due.is("a text in the example", text.find() ? 1 : 0, 1);
        PlatformsLeave x = new PlatformsLeave();
        Due.tell(x, text.group(1));
        Matcher call = CALL.matcher(readme);
        int found = 0;
        while (call.find()) {
            Due.is("README: " + call.group(), answer(x, call.group(1), call.group(2)), Integer.parseInt(call.group(3)));
            found++;
        }
        Due.is("calls in the example", found, 9);
    }

    private static int answer(PlatformsLeave x, String name, String told) throws ReflectiveOperationException {
        String[] numbers = told.isEmpty() ? new String[0] : told.split(", ");
        Object[] values = new Object[numbers.length];
        Class<?>[] types = new Class<?>[numbers.length];
        for (int i = 0; i < numbers.length; i++) {
            values[i] = Integer.parseInt(numbers[i]);
            types[i] = int.class;
        }
        return (Integer) PlatformsLeave.class.getMethod(name, types).invoke(x, values);
    }

    private static void calls(String readme) {
        for (Method method : PlatformsLeave.class.getDeclaredMethods()) {
            if (!Modifier.isPublic(method.getModifiers())) continue;
            Matcher call = Pattern.compile("(?m)^\\|[^|]*`" + method.getName() + "\\(([^)]*)\\)`").matcher(readme);
            boolean found = call.find();
            Due.is("in the table of calls: " + method.getName(), found ? 1 : 0, 1);
            int many = !found || call.group(1).isEmpty() ? 0 : call.group(1).split(",").length;
            Due.is("numbers of " + method.getName(), many, method.getParameterCount());
        }
    }

    private static void tests(String readme) throws IOException {
        try (Stream<Path> files = Files.list(Path.of("src/test/java"))) {
            List<String> names = files.map(file -> file.getFileName().toString()).toList();
            for (String name : names) {
                String row = name.endsWith("Test.java") ? "\n| " + name.substring(0, name.length() - 5) + " |" : "`" + name + "`";
                Due.is("in the table of tests: " + name, readme.contains(row) ? 1 : 0, 1);
            }
        }
    }
}
