import java.io.IOException;
import java.lang.reflect.Method;
import java.lang.reflect.Modifier;
import java.nio.file.Files;
import java.nio.file.Path;
import java.util.Arrays;
import java.util.regex.Matcher;
import java.util.regex.Pattern;

/**
 * README.md's example, call by call: a comment that begins with a number tells the call's answer.
 * Run from the root.
 */
public final class ReadmeTest {
    private static final Checks CHECKS = new Checks();
    private static final Pattern MADE = Pattern.compile("new SquareCode\\((\\d+), (\\d+)\\)");
    private static final Pattern CALL =
            Pattern.compile("x\\.(\\w+)\\(([-\\d, ]*)\\); *(?:// (-?\\d+)\\b)?.*");

    public static void main(String[] args) throws ReflectiveOperationException, IOException {
        String readme = Files.readString(Path.of("README.md"));
        String example = readme.substring(readme.indexOf("```java\n") + 8);
        example = example.substring(0, example.indexOf("```"));
        Matcher made = MADE.matcher(example);
        CHECKS.isTrue("the example makes an object", made.find());
        SquareCode x = new SquareCode(number(made.group(1)), number(made.group(2)));
        for (String line : example.split("\n")) {
            Matcher call = CALL.matcher(line);
            if (call.matches()) {
                answer(x, call);
            }
        }
        everyMethodIsTold(readme);
        CHECKS.finish();
    }

    private static int number(String digits) {
        return Integer.parseInt(digits.trim());
    }

    private static void answer(SquareCode x, Matcher call) throws ReflectiveOperationException {
        String[] texts = call.group(2).isEmpty() ? new String[0] : call.group(2).split(",");
        Object[] arguments = Arrays.stream(texts).map(ReadmeTest::number).toArray();
        Class<?>[] types = new Class<?>[arguments.length];
        Arrays.fill(types, int.class);
        Object got = SquareCode.class.getMethod(call.group(1), types).invoke(x, arguments);
        if (call.group(3) != null) {
            CHECKS.due("README: " + call.group(), (Integer) got, number(call.group(3)));
        }
    }

    private static void everyMethodIsTold(String readme) {
        for (Method method : SquareCode.class.getDeclaredMethods()) {
            if (Modifier.isPublic(method.getModifiers())) {
                String name = method.getName();
                CHECKS.isTrue("README uses " + name, readme.contains("x." + name + "("));
                CHECKS.isTrue("README tells of " + name, readme.contains("`" + name + "("));
            }
        }
    }
}
