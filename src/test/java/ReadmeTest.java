import java.io.IOException;
import java.lang.reflect.Method;
import java.lang.reflect.Modifier;
import java.nio.file.Files;
import java.nio.file.Path;
import java.util.Arrays;
import java.util.regex.Matcher;
import java.util.regex.Pattern;

/** README.md's example: each call in it is made, and answers what the comment behind it says. */
public final class ReadmeTest {
    private static final Pattern CALL = Pattern.compile("cards\\.(\\w+)\\(([^)]*)\\);\\s*// (true|false|-?\\d+)\\b.*");

    public static void main(String[] args) throws IOException, ReflectiveOperationException {
        String readme = Files.readString(Path.of(System.getProperty("readme", "README.md")));
        String[] lines = example(readme).split("\n");
        Checks.due("the example's first line", lines[0], "WildCards cards = new WildCards();");
        WildCards cards = new WildCards();
        for (int i = 1; i < lines.length; i++) {
            look(cards, lines[i]);
        }
        for (Method method : WildCards.class.getDeclaredMethods()) {
            boolean isShown = example(readme).contains("cards." + method.getName() + "(");
            Checks.due("the example calls " + method.getName(),
                    isShown || !Modifier.isPublic(method.getModifiers()), true);
        }
        Checks.finish();
    }

    private static String example(String readme) {
        String begin = "```java\n";
        int from = readme.indexOf(begin);
        int to = readme.indexOf("```", from + begin.length());
        return from < 0 || to < 0 ? "" : readme.substring(from + begin.length(), to);
    }

    private static void look(WildCards cards, String line) throws ReflectiveOperationException {
        Matcher call = CALL.matcher(line);
        Checks.due("a call with its answer: " + line, call.matches(), true);
        if (call.matches()) {
            Object[] numbers = call.group(2).isEmpty() ? new Object[0]
                    : Arrays.stream(call.group(2).split(", ")).map(Integer::decode).toArray();
            Class<?>[] kinds = new Class<?>[numbers.length];
            Arrays.fill(kinds, int.class);
            Method method = WildCards.class.getMethod(call.group(1), kinds);
            Checks.due(line, String.valueOf(method.invoke(cards, numbers)), call.group(3));
        }
    }
}
