import java.io.IOException;
import java.lang.reflect.Method;
import java.nio.file.Files;
import java.nio.file.Path;
import java.util.regex.Matcher;
import java.util.regex.Pattern;

/** README.md's example: each call is made, and its answer must be the one that its comment begins with. */
public final class ReadmeTest {
    private static final Due DUE = new Due();
    private static final Pattern MADE = Pattern.compile("WaitedCommits x = new WaitedCommits\\((\\d+)\\);.*");
    private static final Pattern CALL = Pattern.compile("x\\.(\\w+)\\(([-\\d, ]*)\\); +// (\\w+).*");

    private ReadmeTest() {}

    public static void main(String[] args) throws IOException, ReflectiveOperationException {
        DUE.promise("README.md");
        String readme = Files.readString(Path.of("README.md"));
        String[] parts = readme.split("```java\n|```");
        DUE.yes("one example", parts.length == 3);
        WaitedCommits x = null;
        for (String line : parts[1].split("\n")) {
            Matcher made = MADE.matcher(line);
            Matcher call = CALL.matcher(line);
            if (made.matches()) {
                x = new WaitedCommits(Integer.parseInt(made.group(1)));
            } else if (call.matches()) {
                DUE.is(line, answer(x, call.group(1), call.group(2)), said(call.group(3)));
            } else {
                DUE.yes("a line that can be run: " + line, false);
            }
        }
        everyCallIsTold(readme);
        DUE.close();
    }

    private static void everyCallIsTold(String readme) {
        for (Method m : WaitedCommits.class.getMethods()) {
            if (m.getDeclaringClass() == WaitedCommits.class) {
                DUE.yes(m.getName() + " in the table of calls", readme.contains("`" + m.getName() + "("));
            }
        }
    }

    private static long answer(WaitedCommits x, String name, String given) throws ReflectiveOperationException {
        String[] texts = given.isEmpty() ? new String[0] : given.split(", ");
        Object[] numbers = new Object[texts.length];
        Class<?>[] types = new Class<?>[texts.length];
        for (int i = 0; i < texts.length; i++) {
            numbers[i] = Integer.parseInt(texts[i]);
            types[i] = int.class;
        }
        Object got = WaitedCommits.class.getMethod(name, types).invoke(x, numbers);
        if (got instanceof Boolean done) {
            return done ? 1 : 0;
        }
        return ((Number) got).longValue();
    }

    private static long said(String word) {
        return switch (word) {
            case "true" -> 1;
            case "false" -> 0;
            case "REFUSED" -> WaitedCommits.REFUSED;
            case "LOST" -> WaitedCommits.LOST;
            case "NONE" -> WaitedCommits.NONE;
            default -> Long.parseLong(word);
        };
    }
}
