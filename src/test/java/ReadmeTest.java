import java.io.IOException;
import java.lang.reflect.Method;
import java.lang.reflect.Modifier;
import java.nio.file.Files;
import java.nio.file.Path;
import java.util.HashSet;
import java.util.Set;
import java.util.regex.Matcher;
import java.util.regex.Pattern;

/** The lines of README.md that show calls, run from its first to its last: each answers what stands behind it. */
public final class ReadmeTest {
    private static final Checks CHECKS = new Checks("ReadmeTest");
    private static final Pattern CALL = Pattern.compile("x\\.(\\w+)\\(([-\\d, ]*)\\); +// (-?\\w+).*");
    private static final Pattern WORDS = Pattern.compile("feed\\(x, \"(.*)\"\\);");

    private static final Set<String> SHOWN = new HashSet<>();

    private static RootFence x = null;

    public static void main(String[] args) throws IOException {
        boolean code = false;
        for (String line : Files.readAllLines(Path.of("README.md"))) {
            if (line.startsWith("```")) {
                code = line.equals("```java");
            } else if (code) {
                run(line);
            }
        }
        for (Method method : RootFence.class.getDeclaredMethods()) {
            boolean face = Modifier.isPublic(method.getModifiers());
            boolean shown = SHOWN.contains(method.getName());
            CHECKS.due(method.getName() + " is shown", !face || shown ? 1 : 0, 1);
        }
        CHECKS.end();
    }

    private static void run(String line) {
        Matcher call = CALL.matcher(line);
        Matcher words = WORDS.matcher(line);
        if (line.equals("RootFence x = new RootFence();")) {
            x = new RootFence();
        } else if (words.matches()) {
            Checks.feed(x, words.group(1));
            SHOWN.add("feed");
        } else if (call.matches()) {
            CHECKS.due(line, Checks.call(x, call.group(1), numbers(call.group(2))), told(call.group(3)));
            SHOWN.add(call.group(1));
        } else {
            CHECKS.due("a line that no answer stands behind: " + line, 1, 0);
        }
    }

    private static int[] numbers(String list) {
        if (list.isEmpty()) {
            return new int[0];
        }
        String[] parts = list.split(", ");
        int[] numbers = new int[parts.length];
        for (int i = 0; i < parts.length; i++) {
            numbers[i] = Integer.parseInt(parts[i]);
        }
        return numbers;
    }

    private static long told(String answer) {
        switch (answer) {
            case "BAD": return RootFence.BAD;
            case "NOT": return RootFence.NOT;
            case "FULL": return RootFence.FULL;
            case "STATE": return RootFence.STATE;
            case "NO": return RootFence.NO;
            default: return Long.parseLong(answer);
        }
    }
}
