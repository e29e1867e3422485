import java.lang.reflect.Method;
import java.lang.reflect.Modifier;
import java.nio.file.Files;
import java.nio.file.Path;
import java.util.regex.Matcher;
import java.util.regex.Pattern;

/** Makes the calls that README.md shows, each with the answer told behind it, and looks that none is left out. */
public final class ReadmeTest extends Bench {
    private static final Pattern CALL = Pattern.compile("x\\.(\\w+)\\(([^)]*)\\); +// (-?\\d+|[A-Z]+)(:.*)?");
    private static final Pattern FEED = Pattern.compile("feedText\\(x, \"([^\"]*)\"\\);");

    private static int told(String answer) throws Exception {
        return answer.matches("[A-Z]+") ? SeamPull.class.getField(answer).getInt(null) : Integer.parseInt(answer);
    }

    private static int made(SeamPull x, String name, String numbers) throws Exception {
        String[] parts = numbers.isBlank() ? new String[0] : numbers.split(", ");
        Object[] given = new Object[parts.length];
        for (int k = 0; k < parts.length; k++) {
            given[k] = Integer.parseInt(parts[k]);
        }
        for (Method m : SeamPull.class.getMethods()) {
            if (m.getName().equals(name) && m.getParameterCount() == given.length) {
                return (int) m.invoke(x, given);
            }
        }
        holds("there is no call " + name + "(" + numbers + ")", false);
        return 0;
    }

    private static void follow(String block) throws Exception {
        SeamPull x = null;
        int calls = 0;
        for (String line : block.split("\n")) {
            Matcher call = CALL.matcher(line), feed = FEED.matcher(line);
            if (line.equals("SeamPull x = new SeamPull();")) {
                x = new SeamPull();
            } else if (feed.matches()) {
                feedText(x, feed.group(1));
            } else if (call.matches()) {
                calls++;
                due(line, made(x, call.group(1), call.group(2)), told(call.group(3)));
            } else {
                holds("cannot be followed: " + line, line.isBlank());
            }
        }
        holds("too few calls are shown", calls > 28);
    }

    private static void everyCallIsTold(String readme) {
        for (Method m : SeamPull.class.getDeclaredMethods()) {
            if (Modifier.isPublic(m.getModifiers())) {
                holds("no row for " + m.getName(), readme.contains("| `" + m.getName() + "("));
            }
        }
        String[] rows = {NONE + " | `NONE`", BAD + " | `BAD`", STATE + " | `STATE`", FULL + " | `FULL`", NULL + " | NULL",
            PLACE + " | PLACE", KIND + " | KIND", SIZE + " | SIZE", STORE + " | STORE"};
        for (String row : rows) {
            holds("no row for " + row, readme.contains("| " + row + " |"));
        }
    }

    private static void everyTestIsTold(String readme) throws Exception {
        try (var files = Files.list(Path.of("src/test/java"))) {
            for (Path file : files.toList()) {
                String name = file.getFileName().toString().replace(".java", "");
                holds("no word of " + name, !name.endsWith("Test") || readme.contains("`" + name + "`"));
            }
        }
    }

    public static void main(String[] args) throws Exception {
        about("README.md");
        String readme = Files.readString(Path.of("README.md"));
        int start = readme.indexOf("```java\nSeamPull x"), end = readme.indexOf("```", start + 3);
        holds("no calls are shown", start >= 0 && end > start);
        if (start >= 0 && end > start) {
            follow(readme.substring(start + 8, end));
        }
        everyCallIsTold(readme);
        everyTestIsTold(readme);
        end("ReadmeTest");
    }
}
