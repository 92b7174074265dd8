import java.io.IOException;
import java.lang.reflect.Method;
import java.lang.reflect.Modifier;
import java.nio.file.Files;
import java.nio.file.Path;
import java.util.regex.Matcher;
import java.util.regex.Pattern;

/** README.md: its example answers what it says, each call of the face is told, and each test is. */
public final class ReadmeTest {
    private static final Check CHECK = new Check("ReadmeTest");

    public static void main(String[] args) throws IOException, ReflectiveOperationException {
        String readme = Files.readString(Path.of("README.md"));
        example(readme);
        everyCall(readme);
        everyTest(readme);
        CHECK.end();
    }

    private static void example(String readme) throws ReflectiveOperationException {
        int start = readme.indexOf("```java");
        String code = readme.substring(start, readme.indexOf("\n```", start));
        Matcher text = Pattern.compile("String text = \"([^\"]*)\";").matcher(code);
        CHECK.due("the example has a text", text.find() ? 1 : 0, 1);
        RainShelves x = new RainShelves();
        Check.type(x, text.group(1));
        Matcher call = Pattern.compile("(?m)^x\\.(\\w+)\\(([-0-9, ]*)\\); *// (-?\\d+|[A-Z]+):").matcher(code);
        int calls = 0;
        while (call.find()) {
            calls++;
            String[] words = call.group(2).isEmpty() ? new String[0] : call.group(2).split(", ");
            CHECK.due("README: " + call.group(), answer(x, call.group(1), words), number(call.group(3)));
        }
        long lines = code.lines().filter(line -> line.startsWith("x.")).count();
        CHECK.due("calls of the example that tell their answer", calls, lines);
        CHECK.due("there are some", calls > 0 ? 1 : 0, 1);
    }

    private static long answer(RainShelves x, String name, String[] words) throws ReflectiveOperationException {
        Class<?>[] types = new Class<?>[words.length];
        Object[] numbers = new Object[words.length];
        for (int i = 0; i < words.length; i++) {
            types[i] = int.class;
            numbers[i] = Integer.valueOf(words[i]);
        }
        Number answer = (Number) RainShelves.class.getMethod(name, types).invoke(x, numbers);
        return answer.longValue();
    }

    private static long number(String word) throws ReflectiveOperationException {
        return word.matches("[A-Z]+") ? RainShelves.class.getField(word).getInt(null) : Long.parseLong(word);
    }

    /** As `name(its numbers)`, with as many of them as it takes. */
    private static void everyCall(String readme) {
        for (Method m : RainShelves.class.getDeclaredMethods()) {
            if (!Modifier.isPublic(m.getModifiers())) continue;
            int numbers = m.getParameterCount();
            String inside = numbers == 0 ? "" : "\\w+" + ", \\w+".repeat(numbers - 1);
            Matcher told = Pattern.compile("\\| `" + m.getName() + "\\(" + inside + "\\)`").matcher(readme);
            CHECK.due("README tells of " + m.getName(), told.find() ? 1 : 0, 1);
        }
    }

    private static void everyTest(String readme) throws IOException {
        try (var files = Files.list(Path.of("src/test/java"))) {
            for (Path file : files.sorted().toList()) {
                String name = file.getFileName().toString().replace(".java", "");
                if (name.endsWith("Test")) CHECK.due("README tells of " + name, readme.contains("`" + name + "`") ? 1 : 0, 1);
            }
        }
    }
}
