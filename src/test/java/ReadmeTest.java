import java.io.IOException;
import java.lang.reflect.Method;
import java.lang.reflect.Modifier;
import java.nio.file.Files;
import java.nio.file.Path;
import java.util.List;
import java.util.regex.Matcher;
import java.util.regex.Pattern;

/** README.md: its example answers what it says, and it names every call. */
public final class ReadmeTest {
    private static final Path README = Path.of("README.md");
    private static final Pattern SIGNS = Pattern.compile("say\\(x, \"([^\"]*)\"\\);.*");
    private static final Pattern CALL = Pattern.compile("x\\.(\\w+)\\(([-0-9, ]*)\\); +// -> (-?\\d+): .*");
    private static final Check CHECK = new Check("ReadmeTest");

    private static long answer(SaltIceCream x, String name, String arguments) throws ReflectiveOperationException {
        String[] texts = arguments.isEmpty() ? new String[0] : arguments.split(", ");
        Class<?>[] types = new Class<?>[texts.length];
        Object[] numbers = new Object[texts.length];
        for (int i = 0; i < texts.length; i++) {
            types[i] = int.class;
            numbers[i] = Integer.valueOf(texts[i]);
        }
        return ((Number) SaltIceCream.class.getMethod(name, types).invoke(x, numbers)).longValue();
    }

    private static void example(List<String> lines) throws ReflectiveOperationException {
        SaltIceCream x = new SaltIceCream();
        int answers = 0;
        int from = lines.indexOf("```java") + 2;
        for (int i = from; i < lines.size() && !lines.get(i).equals("```"); i++) {
            Matcher signs = SIGNS.matcher(lines.get(i));
            Matcher call = CALL.matcher(lines.get(i));
            if (signs.matches()) {
                for (char c : signs.group(1).toCharArray()) {
                    x.say(c);
                }
            } else if (call.matches()) {
                CHECK.due(lines.get(i), answer(x, call.group(1), call.group(2)), Long.parseLong(call.group(3)));
                answers++;
            } else {
                CHECK.holds("a line of the example is understood: " + lines.get(i), false);
            }
        }
        CHECK.holds("there is an example", answers >= 10);
    }

    public static void main(String[] args) throws IOException, ReflectiveOperationException {
        List<String> lines = Files.readAllLines(README);
        example(lines);
        String text = String.join("\n", lines);
        for (Method m : SaltIceCream.class.getDeclaredMethods()) {
            if (Modifier.isPublic(m.getModifiers())) {
                CHECK.holds("README.md names " + m.getName(), text.contains("`" + m.getName() + "`"));
            }
        }
        CHECK.holds("README.md says how to run the tests", text.contains(".ci/run"));
        CHECK.end();
    }
}
